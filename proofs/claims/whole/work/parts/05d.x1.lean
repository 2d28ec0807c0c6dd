/-- what a call of the reference leaves: all but thrown and the three noted power fields -/
def keepT (T u : pT) : Prop := sgT u = sgT T ∧ odT u = odT T ∧ shT u = shT T ∧ ksT u = ksT T ∧ kgT u = kgT T ∧ koT u = koT T ∧ khT u = khT T ∧ kpT u = kpT T
theorem keepT.rf (T : pT) : keepT T T := ⟨rfl, rfl, rfl, rfl, rfl, rfl, rfl, rfl⟩
theorem keepT.tr {T u v : pT} (h : keepT T u) (k : keepT u v) : keepT T v := ⟨k.1.trans h.1, k.2.1.trans h.2.1, k.2.2.1.trans h.2.2.1, k.2.2.2.1.trans h.2.2.2.1, k.2.2.2.2.1.trans h.2.2.2.2.1, k.2.2.2.2.2.1.trans h.2.2.2.2.2.1, k.2.2.2.2.2.2.1.trans h.2.2.2.2.2.2.1, k.2.2.2.2.2.2.2.trans h.2.2.2.2.2.2.2⟩
theorem keepT.kp {T u : pT} (h : keepT T u) : kpT u = kpT T ∧ ksT u = ksT T := ⟨h.2.2.2.2.2.2.2, h.2.2.2.1⟩
theorem no_keep {b w r : Int32} {T u : pT} (h : f_X1_no T b w = (r, u)) : keepT T u := by
  have h2 : u = (f_X1_no T b w).2 := by rw [h]
  rw [h2]
  unfold f_X1_no g_X1_no_10
  repeat' split
  all_goals exact ⟨rfl, rfl, rfl, rfl, rfl, rfl, rfl, rfl⟩
theorem isTold_go (T : pT) (p1 : Int64) (p2 p3 w : Int32) : ∀ (n : Nat) (v : Int32) (q : Int64), keepT T (g_X1_isTold_77 T p1 p2 p3 w n v q).2 := by
  intro n
  induction n with
  | zero => intro v q; exact keepT.rf T
  | succ n ih =>
    intro v q
    rw [g_X1_isTold_77]
    repeat' split
    all_goals first
      | exact ih _ _
      | (unfold g_X1_isTold_121
         repeat' split
         all_goals exact ⟨rfl, rfl, rfl, rfl, rfl, rfl, rfl, rfl⟩)
      | exact ⟨rfl, rfl, rfl, rfl, rfl, rfl, rfl, rfl⟩
theorem isTold_keep {a c d : Int32} {b : Int64} {r : Int32} {T u : pT} (h : f_X1_isTold T a b c d = (r, u)) : keepT T u := by
  have h2 : u = (f_X1_isTold T a b c d).2 := by rw [h]
  rw [h2]
  unfold f_X1_isTold g_X1_isTold_24 g_X1_isTold_41 g_X1_isTold_42
  repeat' split
  all_goals first
    | exact isTold_go _ _ _ _ _ _ _ _
    | exact ⟨rfl, rfl, rfl, rfl, rfl, rfl, rfl, rfl⟩
theorem isTold_kp {a c d : Int32} {b : Int64} {r : Int32} {T u : pT} (h : f_X1_isTold T a b c d = (r, u)) : kpT u = kpT T ∧ ksT u = ksT T := (isTold_keep h).kp
theorem isTold__k37 (T : pT) (p1 : Int32) (a : Int64) (b : Int32) : keepT T (g_X1_isTold__37 T p1 a b).2 := by
  unfold g_X1_isTold__37
  generalize hx : f_X1_isTold T b _ _ p1 = x
  obtain ⟨r, u⟩ := x
  exact isTold_keep hx
theorem isTold__keep {a c : Int32} {r : Int32} {T u : pT} (h : f_X1_isTold_ T a c = (r, u)) : keepT T u := by
  have h2 : u = (f_X1_isTold_ T a c).2 := by rw [h]
  rw [h2]
  unfold f_X1_isTold_ g_X1_isTold__12
  repeat' split
  all_goals exact isTold__k37 _ _ _ _
theorem isTold__kp {a c : Int32} {r : Int32} {T u : pT} (h : f_X1_isTold_ T a c = (r, u)) : kpT u = kpT T ∧ ksT u = ksT T := (isTold__keep h).kp
theorem no_r {b w r : Int32} {T u : pT} (h : f_X1_no T b w = (r, u)) : r = if b = 0 then 1 else 0 := by
  have h2 : r = (f_X1_no T b w).1 := by rw [h]
  rw [h2]
  unfold f_X1_no g_X1_no_10
  repeat' split
  all_goals rfl
theorem lacks_ok {a s p r : Int32} {T u : pT} (h : f_X1_lacks T a s p = (r, u)) (h0 : r = 0) : vp_in s 8 ∧ ¬ (f_X1_isFrom a 2 64) = 0 := by
  unfold f_X1_lacks at h
  generalize h1 : f_X1_no T (f_X1_isSlot s) 1 = x at h
  obtain ⟨r6, u6⟩ := x
  dsimp only at h
  by_cases c6 : r6 = 0
  · rw [if_pos c6] at h
    refine ⟨isSlot_in (no_ok h1 c6), fun e => ?_⟩
    rw [if_pos e] at h
    unfold g_X1_lacks_31 g_X1_lacks_32 at h
    generalize h2 : f_X1_no u6 0 2 = y at h
    obtain ⟨r33, u33⟩ := y
    dsimp only at h
    by_cases c33 : r33 = 0
    · exact no_ok h2 c33 rfl
    · rw [if_neg c33] at h
      have := congrArg Prod.fst h
      rw [h0] at this
      exact absurd (show (1 : Int32) = 0 from this) (by decide)
  · rw [if_neg c6] at h
    have := congrArg Prod.fst h
    rw [h0] at this
    exact absurd (show (1 : Int32) = 0 from this) (by decide)
theorem lacks_in {a s p r : Int32} {T u : pT} (h : f_X1_lacks T a s p = (r, u)) (h0 : r = 0) : vp_in s 8 := (lacks_ok h h0).1
theorem lacks_nz {a s p r : Int32} {T u : pT} (h : f_X1_lacks T a s p = (r, u)) (h0 : r = 0) : ¬ ((a : Int32).toInt64) = 0 := isFrom2_nz (lacks_ok h h0).2
theorem lacks_base {a s p r : Int32} {T u : pT} (h : f_X1_lacks T a s p = (r, u)) (h0 : r = 0) : 2 ≤ a.toInt ∧ a.toInt ≤ 64 := by
  have := isFrom_in (lacks_ok h h0).2
  rw [show (2 : Int32).toInt = 2 by decide, show (64 : Int32).toInt = 64 by decide] at this
  exact this
theorem lacksSquare_in {s r : Int32} {T u : pT} (h : f_X1_lacksSquare T s = (r, u)) (h0 : r = 0) : vp_in s 8 := by
  unfold f_X1_lacksSquare at h
  generalize h1 : f_X1_no T (f_X1_isSlot s) 1 = x at h
  obtain ⟨r6, u6⟩ := x
  dsimp only at h
  by_cases c6 : r6 = 0
  · exact isSlot_in (no_ok h1 c6)
  · rw [if_neg c6] at h
    have := congrArg Prod.fst h
    rw [h0] at this
    exact absurd (show (1 : Int32) = 0 from this) (by decide)
theorem div_step {a : Int32} (hb : 2 ≤ a.toInt ∧ a.toInt ≤ 64) {v : Int64} (hv : 0 < v.toInt) : (v / ((a : Int32).toInt64)).toInt = v.toInt / a.toInt := by
  rw [divL_toInt (by omega) (by rw [Int32.toInt_toInt64]; omega), Int32.toInt_toInt64]
theorem div_le2 {a : Int32} (hb : 2 ≤ a.toInt ∧ a.toInt ≤ 64) {v : Int64} (hv : 0 < v.toInt) : v.toInt / a.toInt ≤ v.toInt / 2 ∧ 0 ≤ v.toInt / a.toInt := by
  have h0 : 0 ≤ v.toInt / a.toInt := Int.ediv_nonneg (by omega) (by omega)
  have h1 : v.toInt / a.toInt * a.toInt ≤ v.toInt := Int.ediv_mul_le _ (by omega)
  have h2 : v.toInt / a.toInt * 2 ≤ v.toInt / a.toInt * a.toInt := Int.mul_le_mul_of_nonneg_left hb.1 h0
  exact ⟨by omega, h0⟩
theorem mu_div {a : Int32} {v : Int64} {n : Nat} (hb : 2 ≤ a.toInt ∧ a.toInt ≤ 64) (c : ¬ v < ((a : Int32).toInt64)) (h : v.toInt.toNat < n + 1) : (v / ((a : Int32).toInt64)).toInt.toNat < n := by
  rw [fa_lt64, Int32.toInt_toInt64] at c
  have hv : 0 < v.toInt := by omega
  rw [div_step hb hv]
  have := div_le2 hb hv
  omega
theorem mu_div2 {a : Int32} {v : Int64} {n : Nat} (hb : 2 ≤ a.toInt ∧ a.toInt ≤ 64) (c : ¬ v ≤ 0) (h : v.toInt.toNat < n + 1) : (v / ((a : Int32).toInt64)).toInt.toNat < n := by
  rw [fa_le64, L0] at c
  have hv : 0 < v.toInt := by omega
  rw [div_step hb hv]
  have := div_le2 hb hv
  omega

def f_X1_put (T : pT) (p0 : Int32) (p1 : Int32) : Int32 × pT := (match f_X1_no T (f_X1_isSlot p0) 1 with | (r6, u6) => (if (r6 : Int32) = 0 then (match f_X1_no u6 (f_X1_isBase p1) 2 with | (r18, u18) => (if (r18 : Int32) = 0 then (match f_X1_isTold_ u18 p1 1 with | (r29, u29) => (match f_X1_become u29 p0 (psT u29) (poT u29) (phT u29) with | (r47, u47) => (r47, u47))) else (0, u18))) else (0, u6)))
set_option maxHeartbeats 4000000 in
set_option maxRecDepth 100000 in
theorem met_X1_put (l : Launch) (D : va_G) (cI cJ : ClassId) (bd : Nat → Nat) (A : Nat → Prop) (T : pT) (p0 : Int32) (p1 : Int32) (hkp : kpR T) : Met l yX1_put wsX1_put ({ frames := 2, cells := 0, slots := 0, locals := 51 } : Room) (va_Pc [.ref (bd 0), .int p0, .int p1] (fun U => b1R D cI cJ bd T U ∧ va_D A (mmW cI cJ bd T))) (va_Qi (fun (r : Int32) (u : pT) => f_X1_put T p0 p1 = (r, u)) (fun (u : pT) t => va_P D pCl (mmW cI cJ bd u) t.heap ∧ va_D A (mmW cI cJ bd u)) A) 0 0 A := by
  refine Met.ofW (cc := cX1_put) (maxL := 3) (ret := (some .int)) (by decide) rfl ?_
  intro p e s m args below meth c s₁ B hml hv
  obtain ⟨rfl, ⟨hP, hK⟩, hD⟩ := hv
  have hx := B.exec
  have hb := B.bytes
  have hr := B.returns
  have hts := atoms_spec (ws := wsX1_put) B.pre
  have hown : s.vm.findClass RX1 = some m.cls := findClass_of_methodNamed B.named
  have hlocks := B.notSynchronized
  have hS : va_S A s.heap s.heap [] := va_S.rf
  have hin : ∀ w ∈ wsX10, w ∈ wsX1_put := by decide +kernel
  have hf51 := hts (.fieldLink RX1 51 "PowermillModel" "powerSign" "I") (by decide +kernel)
  have hf54 := hts (.fieldLink RX1 54 "PowermillModel" "powerOdd" "J") (by decide +kernel)
  have hf58 := hts (.fieldLink RX1 58 "PowermillModel" "powerShift" "I") (by decide +kernel)
  have hl := lv_entry ([.ref (bd 0), .int p0, .int p1]) (n := 3) (Nat.le_of_ble_eq_true rfl)
  rw [lg_entry_eq]
  generalize (lg_sl ([.ref (bd 0), .int p0, .int p1]) ++ List.replicate (3 - (lg_sl ([.ref (bd 0), .int p0, .int p1])).length) Slot.unset).toArray = ls at hl ⊢
  have hl : lv_has ls 3 [(0, .ref (bd 0)), (1, .int p0), (2, .int p1)] := hl
  obtain ⟨Q, hQ⟩ : ∃ Q : State → Prop, Q = (MQ below (va_Qi (fun (r : Int32) (u : pT) => f_X1_put T p0 p1 = (r, u)) (fun (u : pT) t => va_P D pCl (mmW cI cJ bd u) t.heap ∧ va_D A (mmW cI cJ bd u)) A) ([.ref (bd 0), .int p0, .int p1] : List Value).toArray s 0 0 A) := ⟨_, rfl⟩
  rw [← hQ]
  have hR : f_X1_put T p0 p1 = f_X1_put T p0 p1 := rfl
  refine lv_aload_n hx hb dX1_put_0 rfl (lv_at hl 0 rfl) ?_
  refine lv_iload_n hx hb dX1_put_1 rfl (lv_at hl 1 rfl) ?_
  refine va_calli (va_runS (As := [.int p0]) (rest := [.ref (bd 0)]) ⟨hx, hb, hml, hown, hts⟩ (met_X1_isSlot l p0) (va_cwS 1 hts gX1_put_X1_isSlot rfl rfl rfl (by decide +kernel) ⟨Nat.le_of_ble_eq_true rfl, Nat.le_of_ble_eq_true rfl⟩) ⟨fun a U g mk q => q, fun U hU hW => ⟨rfl, trivial⟩⟩ rfl rfl hl.1 rfl (lv_room (Nat.le_of_ble_eq_true rfl)) dX1_put_2 ⟨Nat.le_of_ble_eq_true rfl, Nat.le_of_ble_eq_true rfl⟩) hS (fun q _ h => h.elim) (fun q h => h.elim) (fun r2 u2 t H locs ht hvm hw2 hB hz hk hS => ?_)
  obtain ⟨hw2, bz2⟩ := hw2
  subst hw2
  have hP := hP.kept (fun k q hk9 => hk _ (vx_lt hP hk9) (fun h => h))
  refine lv_iconst (v := 1) hx hb dX1_put_5 (by decide) ?_
  refine va_calli (va_runV (As := [.int (f_X1_isSlot p0), .int 1]) (rest := []) ⟨hx, hb, hml, hown, hts⟩ (met_X1_no l D cI cJ bd A T (f_X1_isSlot p0) 1) (cwV 2 hts gX1_put_X1_no rfl rfl rfl (by decide +kernel) ⟨Nat.le_of_ble_eq_true rfl, Nat.le_of_ble_eq_true rfl⟩) ⟨fun a U g mk q => ⟨q.1, b1R_calling q.2.1, q.2.2⟩, va_recv hK hP (ci := 1) (q0 := 0) rfl rfl, fun U hU hW => ⟨rfl, b1R_at hP hK hU hW, hD⟩⟩ rfl rfl hl.1 rfl (lv_room (Nat.le_of_ble_eq_true rfl)) dX1_put_6 ⟨Nat.le_of_ble_eq_true rfl, Nat.le_of_ble_eq_true rfl⟩) hS (fun q _ h => h) (fun q h => h) (fun r6 u6 t H locs ht hvm hw6 hB hz hk hS => ?_)
  obtain ⟨hw6, bz6⟩ := hw6
  obtain ⟨hP, hD⟩ := hB
  rw [ht] at hP
  refine lv_if_ne (tgt := 24) hx hb dX1_put_9 (by decide) (fun c9 => ?_) (fun c9 => ?_)
  · skip
    refine lv_iconst (v := 0) hx hb dX1_put_24 (by decide) ?_
    rw [hQ]
    exact W.iret (v := 0) hx hb hr (fun t ht hW => ⟨⟨0, u6, rfl, (hR.trans (by simp only [f_X1_put, hw6, if_neg c9])), by rw [ht]; exact hP, hD⟩, hS.F ht⟩) hS.2.2 dX1_put_25
  · skip
    have hi9 := isSlot_in (no_ok hw6 c9)
    refine lv_aload_n hx hb dX1_put_12 rfl (lv_at hl 0 rfl) ?_
    refine lv_iload_n hx hb dX1_put_13 rfl (lv_at hl 2 rfl) ?_
    refine va_calli (va_runS (As := [.int p1]) (rest := [.ref (bd 0)]) ⟨hx, hb, hml, hown, hts⟩ (met_X1_isBase l p1) (va_cwS 1 hts gX1_put_X1_isBase rfl rfl rfl (by decide +kernel) ⟨Nat.le_of_ble_eq_true rfl, Nat.le_of_ble_eq_true rfl⟩) ⟨fun a U g mk q => q, fun U hU hW => ⟨rfl, trivial⟩⟩ rfl rfl hl.1 rfl (lv_room (Nat.le_of_ble_eq_true rfl)) dX1_put_14 ⟨Nat.le_of_ble_eq_true rfl, Nat.le_of_ble_eq_true rfl⟩) hS (fun q _ h => h.elim) (fun q h => h.elim) (fun r14 u14 t H locs ht hvm hw14 hB hz hk hS => ?_)
    obtain ⟨hw14, bz14⟩ := hw14
    subst hw14
    have hP := hP.kept (fun k q hk9 => hk _ (vx_lt hP hk9) (fun h => h))
    refine lv_iconst (v := 2) hx hb dX1_put_17 (by decide) ?_
    refine va_calli (va_runV (As := [.int (f_X1_isBase p1), .int 2]) (rest := []) ⟨hx, hb, hml, hown, hts⟩ (met_X1_no l D cI cJ bd A u6 (f_X1_isBase p1) 2) (cwV 2 hts gX1_put_X1_no rfl rfl rfl (by decide +kernel) ⟨Nat.le_of_ble_eq_true rfl, Nat.le_of_ble_eq_true rfl⟩) ⟨fun a U g mk q => ⟨q.1, b1R_calling q.2.1, q.2.2⟩, va_recv hK hP (ci := 1) (q0 := 0) rfl rfl, fun U hU hW => ⟨rfl, b1R_at hP hK hU hW, hD⟩⟩ rfl rfl hl.1 rfl (lv_room (Nat.le_of_ble_eq_true rfl)) dX1_put_18 ⟨Nat.le_of_ble_eq_true rfl, Nat.le_of_ble_eq_true rfl⟩) hS (fun q _ h => h) (fun q h => h) (fun r18 u18 t H locs ht hvm hw18 hB hz hk hS => ?_)
    obtain ⟨hw18, bz18⟩ := hw18
    obtain ⟨hP, hD⟩ := hB
    rw [ht] at hP
    refine lv_if_eq (tgt := 26) hx hb dX1_put_21 (by decide) (fun c21 => ?_) (fun c21 => ?_)
    · skip
      refine lv_aload_n hx hb dX1_put_26 rfl (lv_at hl 0 rfl) ?_
      refine lv_iload_n hx hb dX1_put_27 rfl (lv_at hl 2 rfl) ?_
      refine lv_iconst (v := 1) hx hb dX1_put_28 (by decide) ?_
      refine va_calli (va_runV (As := [.int p1, .int 1]) (rest := []) ⟨hx, hb, hml, hown, hts⟩ (met_X1_isTold_ l D cI cJ bd A u18 p1 1) (cwV 2 hts gX1_put_X1_isTold_ rfl rfl rfl (by decide +kernel) ⟨Nat.le_of_ble_eq_true rfl, Nat.le_of_ble_eq_true rfl⟩) ⟨fun a U g mk q => ⟨q.1, b1R_calling q.2.1, q.2.2⟩, va_recv hK hP (ci := 1) (q0 := 0) rfl rfl, fun U hU hW => ⟨rfl, b1R_at hP hK hU hW, hD⟩⟩ rfl rfl hl.1 rfl (lv_room (Nat.le_of_ble_eq_true rfl)) dX1_put_29 ⟨Nat.le_of_ble_eq_true rfl, Nat.le_of_ble_eq_true rfl⟩) hS (fun q _ h => h) (fun q h => h) (fun r29 u29 t H locs ht hvm hw29 hB hz hk hS => ?_)
      obtain ⟨hw29, bz29⟩ := hw29
      obtain ⟨hP, hD⟩ := hB
      rw [ht] at hP
      refine lv_pop hx hb dX1_put_32 rfl ?_
      refine lv_aload_n hx hb dX1_put_33 rfl (lv_at hl 0 rfl) ?_
      refine lv_iload_n hx hb dX1_put_34 rfl (lv_at hl 1 rfl) ?_
      refine lv_aload_n hx hb dX1_put_35 rfl (lv_at hl 0 rfl) ?_
      refine va_get (D := D) (ci := 1) (v := .int (psT u29)) (C := RX1) (T := TX1) (N := 12) hx hb hts hin hown hK hP 0 rfl rfl 8 (by decide) hf51 (fun _ h9 => h9) rfl dX1_put_36 ?_
      refine lv_aload_n hx hb dX1_put_39 rfl (lv_at hl 0 rfl) ?_
      refine va_get (D := D) (ci := 1) (v := .long (poT u29)) (C := RX1) (T := TX1) (N := 12) hx hb hts hin hown hK hP 0 rfl rfl 9 (by decide) hf54 (fun _ h9 => h9) rfl dX1_put_40 ?_
      refine lv_aload_n hx hb dX1_put_43 rfl (lv_at hl 0 rfl) ?_
      refine va_get (D := D) (ci := 1) (v := .int (phT u29)) (C := RX1) (T := TX1) (N := 12) hx hb hts hin hown hK hP 0 rfl rfl 10 (by decide) hf58 (fun _ h9 => h9) rfl dX1_put_44 ?_
      refine va_calli (va_runV (As := [.int p0, .int (psT u29), .long (poT u29), .int (phT u29)]) (rest := []) ⟨hx, hb, hml, hown, hts⟩ (met_X1_become l D cI cJ bd A u29 p0 (psT u29) (poT u29) (phT u29) (hi9) (kp_of (isTold__kp hw29) (kp_of (no_kp hw18) (kp_of (no_kp hw6) hkp)))) (cwV 4 hts gX1_put_X1_become rfl rfl rfl (by decide +kernel) ⟨Nat.le_of_ble_eq_true rfl, Nat.le_of_ble_eq_true rfl⟩) ⟨fun a U g mk q => ⟨q.1, b1R_calling q.2.1, q.2.2⟩, va_recv hK hP (ci := 1) (q0 := 0) rfl rfl, fun U hU hW => ⟨rfl, b1R_at hP hK hU hW, hD⟩⟩ rfl rfl hl.1 rfl (lv_room (Nat.le_of_ble_eq_true rfl)) dX1_put_47 ⟨Nat.le_of_ble_eq_true rfl, Nat.le_of_ble_eq_true rfl⟩) hS (fun q _ h => h) (fun q h => h) (fun r47 u47 t H locs ht hvm hw47 hB hz hk hS => ?_)
      obtain ⟨hP, hD⟩ := hB
      rw [ht] at hP
      rw [hQ]
      exact W.iret (v := r47) hx hb hr (fun t ht hW => ⟨⟨r47, u47, rfl, (hR.trans (by simp only [f_X1_put, hw6, if_pos c9, hw18, if_pos c21, hw29, hw47])), by rw [ht]; exact hP, hD⟩, hS.F ht⟩) hS.2.2 dX1_put_50
    · skip
      refine lv_iconst (v := 0) hx hb dX1_put_24 (by decide) ?_
      rw [hQ]
      exact W.iret (v := 0) hx hb hr (fun t ht hW => ⟨⟨0, u18, rfl, (hR.trans (by simp only [f_X1_put, hw6, if_pos c9, hw18, if_neg c21])), by rw [ht]; exact hP, hD⟩, hS.F ht⟩) hS.2.2 dX1_put_25

def g_X1_power_32 (p0 : Int32) (p1 : Int32) (p2 : Int32) (u6 : pT) (w32_0 : Int32) : Int32 × pT := (match f_X1_no u6 w32_0 2 with | (r33, u33) => (if (r33 : Int32) = 0 then (match f_X1_isTold_ u33 p1 p2 with | (r43, u43) => (match f_X1_no u43 r43 3 with | (r47, u47) => (if (r47 : Int32) = 0 then (match f_X1_become u47 p0 (psT u47) (poT u47) (phT u47) with | (r69, u69) => (r69, u69)) else (0, u47)))) else (0, u33)))
def g_X1_power_31 (p0 : Int32) (p1 : Int32) (p2 : Int32) (u6 : pT) : Int32 × pT := (g_X1_power_32 p0 p1 p2 u6 0)
def f_X1_power (T : pT) (p0 : Int32) (p1 : Int32) (p2 : Int32) : Int32 × pT := (match f_X1_no T (f_X1_isSlot p0) 1 with | (r6, u6) => (if (r6 : Int32) = 0 then (if ((f_X1_isBase p1) : Int32) = 0 then (g_X1_power_31 p0 p1 p2 u6) else (if ((f_X1_isExponent p2) : Int32) = 0 then (g_X1_power_31 p0 p1 p2 u6) else (g_X1_power_32 p0 p1 p2 u6 1))) else (0, u6)))
set_option maxHeartbeats 4000000 in
set_option maxRecDepth 100000 in
theorem met_X1_power (l : Launch) (D : va_G) (cI cJ : ClassId) (bd : Nat → Nat) (A : Nat → Prop) (T : pT) (p0 : Int32) (p1 : Int32) (p2 : Int32) (hkp : kpR T) : Met l yX1_power wsX1_power ({ frames := 2, cells := 0, slots := 0, locals := 51 } : Room) (va_Pc [.ref (bd 0), .int p0, .int p1, .int p2] (fun U => b1R D cI cJ bd T U ∧ va_D A (mmW cI cJ bd T))) (va_Qi (fun (r : Int32) (u : pT) => f_X1_power T p0 p1 p2 = (r, u)) (fun (u : pT) t => va_P D pCl (mmW cI cJ bd u) t.heap ∧ va_D A (mmW cI cJ bd u)) A) 0 0 A := by
  refine Met.ofW (cc := cX1_power) (maxL := 4) (ret := (some .int)) (by decide) rfl ?_
  intro p e s m args below meth c s₁ B hml hv
  obtain ⟨rfl, ⟨hP, hK⟩, hD⟩ := hv
  have hx := B.exec
  have hb := B.bytes
  have hr := B.returns
  have hts := atoms_spec (ws := wsX1_power) B.pre
  have hown : s.vm.findClass RX1 = some m.cls := findClass_of_methodNamed B.named
  have hlocks := B.notSynchronized
  have hS : va_S A s.heap s.heap [] := va_S.rf
  have hin : ∀ w ∈ wsX10, w ∈ wsX1_power := by decide +kernel
  have hf51 := hts (.fieldLink RX1 51 "PowermillModel" "powerSign" "I") (by decide +kernel)
  have hf54 := hts (.fieldLink RX1 54 "PowermillModel" "powerOdd" "J") (by decide +kernel)
  have hf58 := hts (.fieldLink RX1 58 "PowermillModel" "powerShift" "I") (by decide +kernel)
  have hl := lv_entry ([.ref (bd 0), .int p0, .int p1, .int p2]) (n := 4) (Nat.le_of_ble_eq_true rfl)
  rw [lg_entry_eq]
  generalize (lg_sl ([.ref (bd 0), .int p0, .int p1, .int p2]) ++ List.replicate (4 - (lg_sl ([.ref (bd 0), .int p0, .int p1, .int p2])).length) Slot.unset).toArray = ls at hl ⊢
  have hl : lv_has ls 4 [(0, .ref (bd 0)), (1, .int p0), (2, .int p1), (3, .int p2)] := hl
  obtain ⟨Q, hQ⟩ : ∃ Q : State → Prop, Q = (MQ below (va_Qi (fun (r : Int32) (u : pT) => f_X1_power T p0 p1 p2 = (r, u)) (fun (u : pT) t => va_P D pCl (mmW cI cJ bd u) t.heap ∧ va_D A (mmW cI cJ bd u)) A) ([.ref (bd 0), .int p0, .int p1, .int p2] : List Value).toArray s 0 0 A) := ⟨_, rfl⟩
  rw [← hQ]
  have hR : f_X1_power T p0 p1 p2 = f_X1_power T p0 p1 p2 := rfl
  refine lv_aload_n hx hb dX1_power_0 rfl (lv_at hl 0 rfl) ?_
  refine lv_iload_n hx hb dX1_power_1 rfl (lv_at hl 1 rfl) ?_
  refine va_calli (va_runS (As := [.int p0]) (rest := [.ref (bd 0)]) ⟨hx, hb, hml, hown, hts⟩ (met_X1_isSlot l p0) (va_cwS 1 hts gX1_power_X1_isSlot rfl rfl rfl (by decide +kernel) ⟨Nat.le_of_ble_eq_true rfl, Nat.le_of_ble_eq_true rfl⟩) ⟨fun a U g mk q => q, fun U hU hW => ⟨rfl, trivial⟩⟩ rfl rfl hl.1 rfl (lv_room (Nat.le_of_ble_eq_true rfl)) dX1_power_2 ⟨Nat.le_of_ble_eq_true rfl, Nat.le_of_ble_eq_true rfl⟩) hS (fun q _ h => h.elim) (fun q h => h.elim) (fun r2 u2 t H locs ht hvm hw2 hB hz hk hS => ?_)
  obtain ⟨hw2, bz2⟩ := hw2
  subst hw2
  have hP := hP.kept (fun k q hk9 => hk _ (vx_lt hP hk9) (fun h => h))
  refine lv_iconst (v := 1) hx hb dX1_power_5 (by decide) ?_
  refine va_calli (va_runV (As := [.int (f_X1_isSlot p0), .int 1]) (rest := []) ⟨hx, hb, hml, hown, hts⟩ (met_X1_no l D cI cJ bd A T (f_X1_isSlot p0) 1) (cwV 2 hts gX1_power_X1_no rfl rfl rfl (by decide +kernel) ⟨Nat.le_of_ble_eq_true rfl, Nat.le_of_ble_eq_true rfl⟩) ⟨fun a U g mk q => ⟨q.1, b1R_calling q.2.1, q.2.2⟩, va_recv hK hP (ci := 1) (q0 := 0) rfl rfl, fun U hU hW => ⟨rfl, b1R_at hP hK hU hW, hD⟩⟩ rfl rfl hl.1 rfl (lv_room (Nat.le_of_ble_eq_true rfl)) dX1_power_6 ⟨Nat.le_of_ble_eq_true rfl, Nat.le_of_ble_eq_true rfl⟩) hS (fun q _ h => h) (fun q h => h) (fun r6 u6 t H locs ht hvm hw6 hB hz hk hS => ?_)
  obtain ⟨hw6, bz6⟩ := hw6
  obtain ⟨hP, hD⟩ := hB
  rw [ht] at hP
  refine lv_if_ne (tgt := 53) hx hb dX1_power_9 (by decide) (fun c9 => ?_) (fun c9 => ?_)
  · skip
    refine lv_iconst (v := 0) hx hb dX1_power_53 (by decide) ?_
    rw [hQ]
    exact W.iret (v := 0) hx hb hr (fun t ht hW => ⟨⟨0, u6, rfl, (hR.trans (by simp only [f_X1_power, hw6, if_neg c9])), by rw [ht]; exact hP, hD⟩, hS.F ht⟩) hS.2.2 dX1_power_54
  · skip
    have hi9 := isSlot_in (no_ok hw6 c9)
    refine lv_aload_n hx hb dX1_power_12 rfl (lv_at hl 0 rfl) ?_
    refine lv_iload_n hx hb dX1_power_13 rfl (lv_at hl 2 rfl) ?_
    refine va_calli (va_runS (As := [.int p1]) (rest := [.ref (bd 0)]) ⟨hx, hb, hml, hown, hts⟩ (met_X1_isBase l p1) (va_cwS 1 hts gX1_power_X1_isBase rfl rfl rfl (by decide +kernel) ⟨Nat.le_of_ble_eq_true rfl, Nat.le_of_ble_eq_true rfl⟩) ⟨fun a U g mk q => q, fun U hU hW => ⟨rfl, trivial⟩⟩ rfl rfl hl.1 rfl (lv_room (Nat.le_of_ble_eq_true rfl)) dX1_power_14 ⟨Nat.le_of_ble_eq_true rfl, Nat.le_of_ble_eq_true rfl⟩) hS (fun q _ h => h.elim) (fun q h => h.elim) (fun r14 u14 t H locs ht hvm hw14 hB hz hk hS => ?_)
    obtain ⟨hw14, bz14⟩ := hw14
    subst hw14
    have hP := hP.kept (fun k q hk9 => hk _ (vx_lt hP hk9) (fun h => h))
    have J32 : ∀ (w32_0 : Int32) (ls : Array Slot) (H : Heap) (locs : List Loc), lv_has ls 4 [(0, .ref (bd 0)), (1, .int p0), (2, .int p1), (3, .int p2)] → va_S A s.heap H locs → va_P D pCl (mmW cI cJ bd u6) H → va_D A (mmW cI cJ bd u6) → (w32_0 = 0 ∨ w32_0 = 1) → f_X1_power T p0 p1 p2 = g_X1_power_32 p0 p1 p2 u6 w32_0 → W p l e (headSpec wsX1_power ({ frames := 2, cells := 0, slots := 0, locals := 51 } : Room)).room s m ([.ref (bd 0), .int p0, .int p1, .int p2] : List Value).toArray below meth c H locs 0 0 Q (F0 m 32 ls [.int w32_0, .ref (bd 0)]) := by
      intro w32_0 ls H locs hl hS hP hD hb_w32_0 hR
      refine lv_iconst (v := 2) hx hb dX1_power_32 (by decide) ?_
      refine va_calli (va_runV (As := [.int w32_0, .int 2]) (rest := []) ⟨hx, hb, hml, hown, hts⟩ (met_X1_no l D cI cJ bd A u6 w32_0 2) (cwV 2 hts gX1_power_X1_no rfl rfl rfl (by decide +kernel) ⟨Nat.le_of_ble_eq_true rfl, Nat.le_of_ble_eq_true rfl⟩) ⟨fun a U g mk q => ⟨q.1, b1R_calling q.2.1, q.2.2⟩, va_recv hK hP (ci := 1) (q0 := 0) rfl rfl, fun U hU hW => ⟨rfl, b1R_at hP hK hU hW, hD⟩⟩ rfl rfl hl.1 rfl (lv_room (Nat.le_of_ble_eq_true rfl)) dX1_power_33 ⟨Nat.le_of_ble_eq_true rfl, Nat.le_of_ble_eq_true rfl⟩) hS (fun q _ h => h) (fun q h => h) (fun r33 u33 t H locs ht hvm hw33 hB hz hk hS => ?_)
      obtain ⟨hw33, bz33⟩ := hw33
      obtain ⟨hP, hD⟩ := hB
      rw [ht] at hP
      refine lv_if_ne (tgt := 53) hx hb dX1_power_36 (by decide) (fun c36 => ?_) (fun c36 => ?_)
      · skip
        refine lv_iconst (v := 0) hx hb dX1_power_53 (by decide) ?_
        rw [hQ]
        exact W.iret (v := 0) hx hb hr (fun t ht hW => ⟨⟨0, u33, rfl, (hR.trans (by simp only [g_X1_power_32, hw33, if_neg c36])), by rw [ht]; exact hP, hD⟩, hS.F ht⟩) hS.2.2 dX1_power_54
      · skip
        refine lv_aload_n hx hb dX1_power_39 rfl (lv_at hl 0 rfl) ?_
        refine lv_aload_n hx hb dX1_power_40 rfl (lv_at hl 0 rfl) ?_
        refine lv_iload_n hx hb dX1_power_41 rfl (lv_at hl 2 rfl) ?_
        refine lv_iload_n hx hb dX1_power_42 rfl (lv_at hl 3 rfl) ?_
        refine va_calli (va_runV (As := [.int p1, .int p2]) (rest := [.ref (bd 0)]) ⟨hx, hb, hml, hown, hts⟩ (met_X1_isTold_ l D cI cJ bd A u33 p1 p2) (cwV 2 hts gX1_power_X1_isTold_ rfl rfl rfl (by decide +kernel) ⟨Nat.le_of_ble_eq_true rfl, Nat.le_of_ble_eq_true rfl⟩) ⟨fun a U g mk q => ⟨q.1, b1R_calling q.2.1, q.2.2⟩, va_recv hK hP (ci := 1) (q0 := 0) rfl rfl, fun U hU hW => ⟨rfl, b1R_at hP hK hU hW, hD⟩⟩ rfl rfl hl.1 rfl (lv_room (Nat.le_of_ble_eq_true rfl)) dX1_power_43 ⟨Nat.le_of_ble_eq_true rfl, Nat.le_of_ble_eq_true rfl⟩) hS (fun q _ h => h) (fun q h => h) (fun r43 u43 t H locs ht hvm hw43 hB hz hk hS => ?_)
        obtain ⟨hw43, bz43⟩ := hw43
        obtain ⟨hP, hD⟩ := hB
        rw [ht] at hP
        refine lv_iconst (v := 3) hx hb dX1_power_46 (by decide) ?_
        refine va_calli (va_runV (As := [.int r43, .int 3]) (rest := []) ⟨hx, hb, hml, hown, hts⟩ (met_X1_no l D cI cJ bd A u43 r43 3) (cwV 2 hts gX1_power_X1_no rfl rfl rfl (by decide +kernel) ⟨Nat.le_of_ble_eq_true rfl, Nat.le_of_ble_eq_true rfl⟩) ⟨fun a U g mk q => ⟨q.1, b1R_calling q.2.1, q.2.2⟩, va_recv hK hP (ci := 1) (q0 := 0) rfl rfl, fun U hU hW => ⟨rfl, b1R_at hP hK hU hW, hD⟩⟩ rfl rfl hl.1 rfl (lv_room (Nat.le_of_ble_eq_true rfl)) dX1_power_47 ⟨Nat.le_of_ble_eq_true rfl, Nat.le_of_ble_eq_true rfl⟩) hS (fun q _ h => h) (fun q h => h) (fun r47 u47 t H locs ht hvm hw47 hB hz hk hS => ?_)
        obtain ⟨hw47, bz47⟩ := hw47
        obtain ⟨hP, hD⟩ := hB
        rw [ht] at hP
        refine lv_if_eq (tgt := 55) hx hb dX1_power_50 (by decide) (fun c50 => ?_) (fun c50 => ?_)
        · skip
          refine lv_aload_n hx hb dX1_power_55 rfl (lv_at hl 0 rfl) ?_
          refine lv_iload_n hx hb dX1_power_56 rfl (lv_at hl 1 rfl) ?_
          refine lv_aload_n hx hb dX1_power_57 rfl (lv_at hl 0 rfl) ?_
          refine va_get (D := D) (ci := 1) (v := .int (psT u47)) (C := RX1) (T := TX1) (N := 12) hx hb hts hin hown hK hP 0 rfl rfl 8 (by decide) hf51 (fun _ h9 => h9) rfl dX1_power_58 ?_
          refine lv_aload_n hx hb dX1_power_61 rfl (lv_at hl 0 rfl) ?_
          refine va_get (D := D) (ci := 1) (v := .long (poT u47)) (C := RX1) (T := TX1) (N := 12) hx hb hts hin hown hK hP 0 rfl rfl 9 (by decide) hf54 (fun _ h9 => h9) rfl dX1_power_62 ?_
          refine lv_aload_n hx hb dX1_power_65 rfl (lv_at hl 0 rfl) ?_
          refine va_get (D := D) (ci := 1) (v := .int (phT u47)) (C := RX1) (T := TX1) (N := 12) hx hb hts hin hown hK hP 0 rfl rfl 10 (by decide) hf58 (fun _ h9 => h9) rfl dX1_power_66 ?_
          refine va_calli (va_runV (As := [.int p0, .int (psT u47), .long (poT u47), .int (phT u47)]) (rest := []) ⟨hx, hb, hml, hown, hts⟩ (met_X1_become l D cI cJ bd A u47 p0 (psT u47) (poT u47) (phT u47) (hi9) (kp_of (no_kp hw47) (kp_of (isTold__kp hw43) (kp_of (no_kp hw33) (kp_of (no_kp hw6) hkp))))) (cwV 4 hts gX1_power_X1_become rfl rfl rfl (by decide +kernel) ⟨Nat.le_of_ble_eq_true rfl, Nat.le_of_ble_eq_true rfl⟩) ⟨fun a U g mk q => ⟨q.1, b1R_calling q.2.1, q.2.2⟩, va_recv hK hP (ci := 1) (q0 := 0) rfl rfl, fun U hU hW => ⟨rfl, b1R_at hP hK hU hW, hD⟩⟩ rfl rfl hl.1 rfl (lv_room (Nat.le_of_ble_eq_true rfl)) dX1_power_69 ⟨Nat.le_of_ble_eq_true rfl, Nat.le_of_ble_eq_true rfl⟩) hS (fun q _ h => h) (fun q h => h) (fun r69 u69 t H locs ht hvm hw69 hB hz hk hS => ?_)
          obtain ⟨hP, hD⟩ := hB
          rw [ht] at hP
          rw [hQ]
          exact W.iret (v := r69) hx hb hr (fun t ht hW => ⟨⟨r69, u69, rfl, (hR.trans (by simp only [g_X1_power_32, hw33, if_pos c36, hw43, hw47, if_pos c50, hw69])), by rw [ht]; exact hP, hD⟩, hS.F ht⟩) hS.2.2 dX1_power_72
        · skip
          refine lv_iconst (v := 0) hx hb dX1_power_53 (by decide) ?_
          rw [hQ]
          exact W.iret (v := 0) hx hb hr (fun t ht hW => ⟨⟨0, u47, rfl, (hR.trans (by simp only [g_X1_power_32, hw33, if_pos c36, hw43, hw47, if_neg c50])), by rw [ht]; exact hP, hD⟩, hS.F ht⟩) hS.2.2 dX1_power_54
    have J31 : ∀ (ls : Array Slot) (H : Heap) (locs : List Loc), lv_has ls 4 [(0, .ref (bd 0)), (1, .int p0), (2, .int p1), (3, .int p2)] → va_S A s.heap H locs → va_P D pCl (mmW cI cJ bd u6) H → va_D A (mmW cI cJ bd u6) → f_X1_power T p0 p1 p2 = g_X1_power_31 p0 p1 p2 u6 → W p l e (headSpec wsX1_power ({ frames := 2, cells := 0, slots := 0, locals := 51 } : Room)).room s m ([.ref (bd 0), .int p0, .int p1, .int p2] : List Value).toArray below meth c H locs 0 0 Q (F0 m 31 ls [.ref (bd 0)]) := by
      intro ls H locs hl hS hP hD hR
      refine lv_iconst (v := 0) hx hb dX1_power_31 (by decide) ?_
      exact J32 0 ls _ _ (lv_sub hl [0, 1, 2, 3] rfl) hS hP hD (Or.inl rfl) (hR.trans (by simp only [g_X1_power_31]))
    refine lv_if_eq (tgt := 31) hx hb dX1_power_17 (by decide) (fun c17 => ?_) (fun c17 => ?_)
    · skip
      exact J31 ls _ _ (lv_sub hl [0, 1, 2, 3] rfl) hS hP hD (hR.trans (by simp only [f_X1_power, hw6, if_pos c9, if_pos c17]))
    · skip
      refine lv_iload_n hx hb dX1_power_20 rfl (lv_at hl 3 rfl) ?_
      refine va_calli (va_runS (As := [.int p2]) (rest := [.ref (bd 0)]) ⟨hx, hb, hml, hown, hts⟩ (met_X1_isExponent l p2) (va_cwS 1 hts gX1_power_X1_isExponent rfl rfl rfl (by decide +kernel) ⟨Nat.le_of_ble_eq_true rfl, Nat.le_of_ble_eq_true rfl⟩) ⟨fun a U g mk q => q, fun U hU hW => ⟨rfl, trivial⟩⟩ rfl rfl hl.1 rfl (lv_room (Nat.le_of_ble_eq_true rfl)) dX1_power_21 ⟨Nat.le_of_ble_eq_true rfl, Nat.le_of_ble_eq_true rfl⟩) hS (fun q _ h => h.elim) (fun q h => h.elim) (fun r21 u21 t H locs ht hvm hw21 hB hz hk hS => ?_)
      obtain ⟨hw21, bz21⟩ := hw21
      subst hw21
      have hP := hP.kept (fun k q hk9 => hk _ (vx_lt hP hk9) (fun h => h))
      refine lv_if_eq (tgt := 31) hx hb dX1_power_24 (by decide) (fun c24 => ?_) (fun c24 => ?_)
      · skip
        exact J31 ls _ _ (lv_sub hl [0, 1, 2, 3] rfl) hS hP hD (hR.trans (by simp only [f_X1_power, hw6, if_pos c9, if_neg c17, if_pos c24]))
      · skip
        refine lv_iconst (v := 1) hx hb dX1_power_27 (by decide) ?_
        refine lv_goto (tgt := 32) hx hb dX1_power_28 (by decide) ?_
        exact J32 1 ls _ _ (lv_sub hl [0, 1, 2, 3] rfl) hS hP hD (Or.inr rfl) (hR.trans (by simp only [f_X1_power, hw6, if_pos c9, if_neg c17, if_neg c24]))

def f_X1_twoTo (T : pT) (p0 : Int32) (p1 : Int32) : Int32 × pT := (match f_X1_no T (f_X1_isSlot p0) 1 with | (r6, u6) => (if (r6 : Int32) = 0 then (match f_X1_no u6 (f_X1_isFrom p1 (-1000) 1000) 2 with | (r24, u24) => (if (r24 : Int32) = 0 then (match f_X1_become u24 p0 1 1 p1 with | (r37, u37) => (r37, u37)) else (0, u24))) else (0, u6)))
set_option maxHeartbeats 4000000 in
set_option maxRecDepth 100000 in
theorem met_X1_twoTo (l : Launch) (D : va_G) (cI cJ : ClassId) (bd : Nat → Nat) (A : Nat → Prop) (T : pT) (p0 : Int32) (p1 : Int32) (hkp : kpR T) : Met l yX1_twoTo wsX1_twoTo ({ frames := 1, cells := 0, slots := 0, locals := 26 } : Room) (va_Pc [.ref (bd 0), .int p0, .int p1] (fun U => b1R D cI cJ bd T U ∧ va_D A (mmW cI cJ bd T))) (va_Qi (fun (r : Int32) (u : pT) => f_X1_twoTo T p0 p1 = (r, u)) (fun (u : pT) t => va_P D pCl (mmW cI cJ bd u) t.heap ∧ va_D A (mmW cI cJ bd u)) A) 0 0 A := by
  refine Met.ofW (cc := cX1_twoTo) (maxL := 3) (ret := (some .int)) (by decide) rfl ?_
  intro p e s m args below meth c s₁ B hml hv
  obtain ⟨rfl, ⟨hP, hK⟩, hD⟩ := hv
  have hx := B.exec
  have hb := B.bytes
  have hr := B.returns
  have hts := atoms_spec (ws := wsX1_twoTo) B.pre
  have hown : s.vm.findClass RX1 = some m.cls := findClass_of_methodNamed B.named
  have hlocks := B.notSynchronized
  have hS : va_S A s.heap s.heap [] := va_S.rf
  have hl := lv_entry ([.ref (bd 0), .int p0, .int p1]) (n := 3) (Nat.le_of_ble_eq_true rfl)
  rw [lg_entry_eq]
  generalize (lg_sl ([.ref (bd 0), .int p0, .int p1]) ++ List.replicate (3 - (lg_sl ([.ref (bd 0), .int p0, .int p1])).length) Slot.unset).toArray = ls at hl ⊢
  have hl : lv_has ls 3 [(0, .ref (bd 0)), (1, .int p0), (2, .int p1)] := hl
  obtain ⟨Q, hQ⟩ : ∃ Q : State → Prop, Q = (MQ below (va_Qi (fun (r : Int32) (u : pT) => f_X1_twoTo T p0 p1 = (r, u)) (fun (u : pT) t => va_P D pCl (mmW cI cJ bd u) t.heap ∧ va_D A (mmW cI cJ bd u)) A) ([.ref (bd 0), .int p0, .int p1] : List Value).toArray s 0 0 A) := ⟨_, rfl⟩
  rw [← hQ]
  have hR : f_X1_twoTo T p0 p1 = f_X1_twoTo T p0 p1 := rfl
  refine lv_aload_n hx hb dX1_twoTo_0 rfl (lv_at hl 0 rfl) ?_
  refine lv_iload_n hx hb dX1_twoTo_1 rfl (lv_at hl 1 rfl) ?_
  refine va_calli (va_runS (As := [.int p0]) (rest := [.ref (bd 0)]) ⟨hx, hb, hml, hown, hts⟩ (met_X1_isSlot l p0) (va_cwS 1 hts gX1_twoTo_X1_isSlot rfl rfl rfl (by decide +kernel) ⟨Nat.le_of_ble_eq_true rfl, Nat.le_of_ble_eq_true rfl⟩) ⟨fun a U g mk q => q, fun U hU hW => ⟨rfl, trivial⟩⟩ rfl rfl hl.1 rfl (lv_room (Nat.le_of_ble_eq_true rfl)) dX1_twoTo_2 ⟨Nat.le_of_ble_eq_true rfl, Nat.le_of_ble_eq_true rfl⟩) hS (fun q _ h => h.elim) (fun q h => h.elim) (fun r2 u2 t H locs ht hvm hw2 hB hz hk hS => ?_)
  obtain ⟨hw2, bz2⟩ := hw2
  subst hw2
  have hP := hP.kept (fun k q hk9 => hk _ (vx_lt hP hk9) (fun h => h))
  refine lv_iconst (v := 1) hx hb dX1_twoTo_5 (by decide) ?_
  refine va_calli (va_runV (As := [.int (f_X1_isSlot p0), .int 1]) (rest := []) ⟨hx, hb, hml, hown, hts⟩ (met_X1_no l D cI cJ bd A T (f_X1_isSlot p0) 1) (cwV 2 hts gX1_twoTo_X1_no rfl rfl rfl (by decide +kernel) ⟨Nat.le_of_ble_eq_true rfl, Nat.le_of_ble_eq_true rfl⟩) ⟨fun a U g mk q => ⟨q.1, b1R_calling q.2.1, q.2.2⟩, va_recv hK hP (ci := 1) (q0 := 0) rfl rfl, fun U hU hW => ⟨rfl, b1R_at hP hK hU hW, hD⟩⟩ rfl rfl hl.1 rfl (lv_room (Nat.le_of_ble_eq_true rfl)) dX1_twoTo_6 ⟨Nat.le_of_ble_eq_true rfl, Nat.le_of_ble_eq_true rfl⟩) hS (fun q _ h => h) (fun q h => h) (fun r6 u6 t H locs ht hvm hw6 hB hz hk hS => ?_)
  obtain ⟨hw6, bz6⟩ := hw6
  obtain ⟨hP, hD⟩ := hB
  rw [ht] at hP
  refine lv_if_ne (tgt := 30) hx hb dX1_twoTo_9 (by decide) (fun c9 => ?_) (fun c9 => ?_)
  · skip
    refine lv_iconst (v := 0) hx hb dX1_twoTo_30 (by decide) ?_
    rw [hQ]
    exact W.iret (v := 0) hx hb hr (fun t ht hW => ⟨⟨0, u6, rfl, (hR.trans (by simp only [f_X1_twoTo, hw6, if_neg c9])), by rw [ht]; exact hP, hD⟩, hS.F ht⟩) hS.2.2 dX1_twoTo_31
  · skip
    have hi9 := isSlot_in (no_ok hw6 c9)
    refine lv_aload_n hx hb dX1_twoTo_12 rfl (lv_at hl 0 rfl) ?_
    refine lv_iload_n hx hb dX1_twoTo_13 rfl (lv_at hl 2 rfl) ?_
    refine lv_sipush (v := (-1000)) hx hb dX1_twoTo_14 (by decide) ?_
    refine lv_sipush (v := 1000) hx hb dX1_twoTo_17 (by decide) ?_
    refine va_calli (va_runS (As := [.int p1, .int (-1000), .int 1000]) (rest := [.ref (bd 0)]) ⟨hx, hb, hml, hown, hts⟩ (met_X1_isFrom l p1 (-1000) 1000) (va_cwS 3 hts gX1_twoTo_X1_isFrom rfl rfl rfl (by decide +kernel) ⟨Nat.le_of_ble_eq_true rfl, Nat.le_of_ble_eq_true rfl⟩) ⟨fun a U g mk q => q, fun U hU hW => ⟨rfl, trivial⟩⟩ rfl rfl hl.1 rfl (lv_room (Nat.le_of_ble_eq_true rfl)) dX1_twoTo_20 ⟨Nat.le_of_ble_eq_true rfl, Nat.le_of_ble_eq_true rfl⟩) hS (fun q _ h => h.elim) (fun q h => h.elim) (fun r20 u20 t H locs ht hvm hw20 hB hz hk hS => ?_)
    obtain ⟨hw20, bz20⟩ := hw20
    subst hw20
    have hP := hP.kept (fun k q hk9 => hk _ (vx_lt hP hk9) (fun h => h))
    refine lv_iconst (v := 2) hx hb dX1_twoTo_23 (by decide) ?_
    refine va_calli (va_runV (As := [.int (f_X1_isFrom p1 (-1000) 1000), .int 2]) (rest := []) ⟨hx, hb, hml, hown, hts⟩ (met_X1_no l D cI cJ bd A u6 (f_X1_isFrom p1 (-1000) 1000) 2) (cwV 2 hts gX1_twoTo_X1_no rfl rfl rfl (by decide +kernel) ⟨Nat.le_of_ble_eq_true rfl, Nat.le_of_ble_eq_true rfl⟩) ⟨fun a U g mk q => ⟨q.1, b1R_calling q.2.1, q.2.2⟩, va_recv hK hP (ci := 1) (q0 := 0) rfl rfl, fun U hU hW => ⟨rfl, b1R_at hP hK hU hW, hD⟩⟩ rfl rfl hl.1 rfl (lv_room (Nat.le_of_ble_eq_true rfl)) dX1_twoTo_24 ⟨Nat.le_of_ble_eq_true rfl, Nat.le_of_ble_eq_true rfl⟩) hS (fun q _ h => h) (fun q h => h) (fun r24 u24 t H locs ht hvm hw24 hB hz hk hS => ?_)
    obtain ⟨hw24, bz24⟩ := hw24
    obtain ⟨hP, hD⟩ := hB
    rw [ht] at hP
    refine lv_if_eq (tgt := 32) hx hb dX1_twoTo_27 (by decide) (fun c27 => ?_) (fun c27 => ?_)
    · skip
      refine lv_aload_n hx hb dX1_twoTo_32 rfl (lv_at hl 0 rfl) ?_
      refine lv_iload_n hx hb dX1_twoTo_33 rfl (lv_at hl 1 rfl) ?_
      refine lv_iconst (v := 1) hx hb dX1_twoTo_34 (by decide) ?_
      refine lv_lconst (v := 1) hx hb dX1_twoTo_35 rfl ?_
      refine lv_iload_n hx hb dX1_twoTo_36 rfl (lv_at hl 2 rfl) ?_
      refine va_calli (va_runV (As := [.int p0, .int 1, .long 1, .int p1]) (rest := []) ⟨hx, hb, hml, hown, hts⟩ (met_X1_become l D cI cJ bd A u24 p0 1 1 p1 (hi9) (kp_of (no_kp hw24) (kp_of (no_kp hw6) hkp))) (cwV 4 hts gX1_twoTo_X1_become rfl rfl rfl (by decide +kernel) ⟨Nat.le_of_ble_eq_true rfl, Nat.le_of_ble_eq_true rfl⟩) ⟨fun a U g mk q => ⟨q.1, b1R_calling q.2.1, q.2.2⟩, va_recv hK hP (ci := 1) (q0 := 0) rfl rfl, fun U hU hW => ⟨rfl, b1R_at hP hK hU hW, hD⟩⟩ rfl rfl hl.1 rfl (lv_room (Nat.le_of_ble_eq_true rfl)) dX1_twoTo_37 ⟨Nat.le_of_ble_eq_true rfl, Nat.le_of_ble_eq_true rfl⟩) hS (fun q _ h => h) (fun q h => h) (fun r37 u37 t H locs ht hvm hw37 hB hz hk hS => ?_)
      obtain ⟨hP, hD⟩ := hB
      rw [ht] at hP
      rw [hQ]
      exact W.iret (v := r37) hx hb hr (fun t ht hW => ⟨⟨r37, u37, rfl, (hR.trans (by simp only [f_X1_twoTo, hw6, if_pos c9, hw24, if_pos c27, hw37])), by rw [ht]; exact hP, hD⟩, hS.F ht⟩) hS.2.2 dX1_twoTo_40
    · skip
      refine lv_iconst (v := 0) hx hb dX1_twoTo_30 (by decide) ?_
      rw [hQ]
      exact W.iret (v := 0) hx hb hr (fun t ht hW => ⟨⟨0, u24, rfl, (hR.trans (by simp only [f_X1_twoTo, hw6, if_pos c9, hw24, if_neg c27])), by rw [ht]; exact hP, hD⟩, hS.F ht⟩) hS.2.2 dX1_twoTo_31

def g_X1_raise_86 (p0 : Int32) (p1 : Int32) (p2 : Int32) (u59 : pT) (w86_0 : Int32) : Int32 × pT := (match f_X1_no u59 w86_0 4 with | (r87, u87) => (if (r87 : Int32) = 0 then (match f_X1_isTold u87 ((sgT u87) p0.toNatClampNeg) ((odT u87) p0.toNatClampNeg) ((shT u87) p0.toNatClampNeg) p1 with | (r114, u114) => (match f_X1_no u114 r114 5 with | (r118, u118) => (if (r118 : Int32) = 0 then (match f_X1_become u118 p2 (psT u118) (poT u118) (phT u118) with | (r140, u140) => (r140, u140)) else (0, u118)))) else (0, u87)))
def g_X1_raise_81 (p0 : Int32) (p1 : Int32) (p2 : Int32) (u59 : pT) : Int32 × pT := (g_X1_raise_86 p0 p1 p2 u59 1)
def g_X1_raise_58 (p0 : Int32) (p1 : Int32) (p2 : Int32) (u37 : pT) (w58_0 : Int32) : Int32 × pT := (match f_X1_no u37 w58_0 3 with | (r59, u59) => (if (r59 : Int32) = 0 then (if (((sgT u59) p0.toNatClampNeg) : Int32) = 0 then (if (p1 : Int32) < 0 then (g_X1_raise_86 p0 p1 p2 u59 0) else (g_X1_raise_81 p0 p1 p2 u59)) else (g_X1_raise_81 p0 p1 p2 u59)) else (0, u59)))
def f_X1_raise (T : pT) (p0 : Int32) (p1 : Int32) (p2 : Int32) : Int32 × pT := (if ((f_X1_isSlot p0) : Int32) = 0 then (match f_X1_no T 0 1 with | (r21, u21) => (if (r21 : Int32) = 0 then (0, T) else (0, u21))) else (if ((f_X1_isSlot p2) : Int32) = 0 then (match f_X1_no T 0 1 with | (r21, u21) => (if (r21 : Int32) = 0 then (0, T) else (0, u21))) else (match f_X1_no T 1 1 with | (r21, u21) => (if (r21 : Int32) = 0 then (match f_X1_no u21 (f_X1_isFrom p1 (-64) 64) 2 with | (r37, u37) => (if (r37 : Int32) = 0 then (if (((shT u37) p0.toNatClampNeg) : Int32) < 0 then (g_X1_raise_58 p0 p1 p2 u37 0) else (g_X1_raise_58 p0 p1 p2 u37 1)) else (0, u37))) else (0, u21)))))
set_option maxHeartbeats 4000000 in
set_option maxRecDepth 100000 in
theorem met_X1_raise (l : Launch) (D : va_G) (cI cJ : ClassId) (bd : Nat → Nat) (A : Nat → Prop) (T : pT) (p0 : Int32) (p1 : Int32) (p2 : Int32) (hkp : kpR T) : Met l yX1_raise wsX1_raise ({ frames := 1, cells := 0, slots := 0, locals := 26 } : Room) (va_Pc [.ref (bd 0), .int p0, .int p1, .int p2] (fun U => b1R D cI cJ bd T U ∧ va_D A (mmW cI cJ bd T))) (va_Qi (fun (r : Int32) (u : pT) => f_X1_raise T p0 p1 p2 = (r, u)) (fun (u : pT) t => va_P D pCl (mmW cI cJ bd u) t.heap ∧ va_D A (mmW cI cJ bd u)) A) 0 0 A := by
  refine Met.ofW (cc := cX1_raise) (maxL := 4) (ret := (some .int)) (by decide) rfl ?_
  intro p e s m args below meth c s₁ B hml hv
  obtain ⟨rfl, ⟨hP, hK⟩, hD⟩ := hv
  have hx := B.exec
  have hb := B.bytes
  have hr := B.returns
  have hts := atoms_spec (ws := wsX1_raise) B.pre
  have hown : s.vm.findClass RX1 = some m.cls := findClass_of_methodNamed B.named
  have hlocks := B.notSynchronized
  have hS : va_S A s.heap s.heap [] := va_S.rf
  have hin : ∀ w ∈ wsX10, w ∈ wsX1_raise := by decide +kernel
  have hf9 := hts (.fieldLink RX1 9 "PowermillModel" "sign" "[I") (by decide +kernel)
  have hf13 := hts (.fieldLink RX1 13 "PowermillModel" "odd" "[J") (by decide +kernel)
  have hf17 := hts (.fieldLink RX1 17 "PowermillModel" "shift" "[I") (by decide +kernel)
  have hf51 := hts (.fieldLink RX1 51 "PowermillModel" "powerSign" "I") (by decide +kernel)
  have hf54 := hts (.fieldLink RX1 54 "PowermillModel" "powerOdd" "J") (by decide +kernel)
  have hf58 := hts (.fieldLink RX1 58 "PowermillModel" "powerShift" "I") (by decide +kernel)
  have hl := lv_entry ([.ref (bd 0), .int p0, .int p1, .int p2]) (n := 4) (Nat.le_of_ble_eq_true rfl)
  rw [lg_entry_eq]
  generalize (lg_sl ([.ref (bd 0), .int p0, .int p1, .int p2]) ++ List.replicate (4 - (lg_sl ([.ref (bd 0), .int p0, .int p1, .int p2])).length) Slot.unset).toArray = ls at hl ⊢
  have hl : lv_has ls 4 [(0, .ref (bd 0)), (1, .int p0), (2, .int p1), (3, .int p2)] := hl
  obtain ⟨Q, hQ⟩ : ∃ Q : State → Prop, Q = (MQ below (va_Qi (fun (r : Int32) (u : pT) => f_X1_raise T p0 p1 p2 = (r, u)) (fun (u : pT) t => va_P D pCl (mmW cI cJ bd u) t.heap ∧ va_D A (mmW cI cJ bd u)) A) ([.ref (bd 0), .int p0, .int p1, .int p2] : List Value).toArray s 0 0 A) := ⟨_, rfl⟩
  rw [← hQ]
  have hR : f_X1_raise T p0 p1 p2 = f_X1_raise T p0 p1 p2 := rfl
  refine lv_aload_n hx hb dX1_raise_0 rfl (lv_at hl 0 rfl) ?_
  refine lv_iload_n hx hb dX1_raise_1 rfl (lv_at hl 1 rfl) ?_
  refine va_calli (va_runS (As := [.int p0]) (rest := [.ref (bd 0)]) ⟨hx, hb, hml, hown, hts⟩ (met_X1_isSlot l p0) (va_cwS 1 hts gX1_raise_X1_isSlot rfl rfl rfl (by decide +kernel) ⟨Nat.le_of_ble_eq_true rfl, Nat.le_of_ble_eq_true rfl⟩) ⟨fun a U g mk q => q, fun U hU hW => ⟨rfl, trivial⟩⟩ rfl rfl hl.1 rfl (lv_room (Nat.le_of_ble_eq_true rfl)) dX1_raise_2 ⟨Nat.le_of_ble_eq_true rfl, Nat.le_of_ble_eq_true rfl⟩) hS (fun q _ h => h.elim) (fun q h => h.elim) (fun r2 u2 t H locs ht hvm hw2 hB hz hk hS => ?_)
  obtain ⟨hw2, bz2⟩ := hw2
  subst hw2
  have hP := hP.kept (fun k q hk9 => hk _ (vx_lt hP hk9) (fun h => h))
  refine lv_if_eq (tgt := 19) hx hb dX1_raise_5 (by decide) (fun c5 => ?_) (fun c5 => ?_)
  · skip
    refine lv_iconst (v := 0) hx hb dX1_raise_19 (by decide) ?_
    refine lv_iconst (v := 1) hx hb dX1_raise_20 (by decide) ?_
    refine va_calli (va_runV (As := [.int 0, .int 1]) (rest := []) ⟨hx, hb, hml, hown, hts⟩ (met_X1_no l D cI cJ bd A T 0 1) (cwV 2 hts gX1_raise_X1_no rfl rfl rfl (by decide +kernel) ⟨Nat.le_of_ble_eq_true rfl, Nat.le_of_ble_eq_true rfl⟩) ⟨fun a U g mk q => ⟨q.1, b1R_calling q.2.1, q.2.2⟩, va_recv hK hP (ci := 1) (q0 := 0) rfl rfl, fun U hU hW => ⟨rfl, b1R_at hP hK hU hW, hD⟩⟩ rfl rfl hl.1 rfl (lv_room (Nat.le_of_ble_eq_true rfl)) dX1_raise_21 ⟨Nat.le_of_ble_eq_true rfl, Nat.le_of_ble_eq_true rfl⟩) hS (fun q _ h => h) (fun q h => h) (fun r21 u21 t H locs ht hvm hw21 hB hz hk hS => ?_)
    obtain ⟨hw21, bz21⟩ := hw21
    obtain ⟨hP, hD⟩ := hB
    rw [ht] at hP
    refine lv_if_ne (tgt := 65) hx hb dX1_raise_24 (by decide) (fun c24 => ?_) (fun c24 => ?_)
    · skip
      refine lv_iconst (v := 0) hx hb dX1_raise_65 (by decide) ?_
      rw [hQ]
      exact W.iret (v := 0) hx hb hr (fun t ht hW => ⟨⟨0, u21, rfl, (hR.trans (by simp only [f_X1_raise, if_pos c5, hw21, if_neg c24])), by rw [ht]; exact hP, hD⟩, hS.F ht⟩) hS.2.2 dX1_raise_66
    · skip
      exact absurd rfl (no_ok hw21 c24)
  · skip
    have hi5 := isSlot_in c5
    refine lv_iload_n hx hb dX1_raise_8 rfl (lv_at hl 3 rfl) ?_
    refine va_calli (va_runS (As := [.int p2]) (rest := [.ref (bd 0)]) ⟨hx, hb, hml, hown, hts⟩ (met_X1_isSlot l p2) (va_cwS 1 hts gX1_raise_X1_isSlot rfl rfl rfl (by decide +kernel) ⟨Nat.le_of_ble_eq_true rfl, Nat.le_of_ble_eq_true rfl⟩) ⟨fun a U g mk q => q, fun U hU hW => ⟨rfl, trivial⟩⟩ rfl rfl hl.1 rfl (lv_room (Nat.le_of_ble_eq_true rfl)) dX1_raise_9 ⟨Nat.le_of_ble_eq_true rfl, Nat.le_of_ble_eq_true rfl⟩) hS (fun q _ h => h.elim) (fun q h => h.elim) (fun r9 u9 t H locs ht hvm hw9 hB hz hk hS => ?_)
    obtain ⟨hw9, bz9⟩ := hw9
    subst hw9
    have hP := hP.kept (fun k q hk9 => hk _ (vx_lt hP hk9) (fun h => h))
    refine lv_if_eq (tgt := 19) hx hb dX1_raise_12 (by decide) (fun c12 => ?_) (fun c12 => ?_)
    · skip
      refine lv_iconst (v := 0) hx hb dX1_raise_19 (by decide) ?_
      refine lv_iconst (v := 1) hx hb dX1_raise_20 (by decide) ?_
      refine va_calli (va_runV (As := [.int 0, .int 1]) (rest := []) ⟨hx, hb, hml, hown, hts⟩ (met_X1_no l D cI cJ bd A T 0 1) (cwV 2 hts gX1_raise_X1_no rfl rfl rfl (by decide +kernel) ⟨Nat.le_of_ble_eq_true rfl, Nat.le_of_ble_eq_true rfl⟩) ⟨fun a U g mk q => ⟨q.1, b1R_calling q.2.1, q.2.2⟩, va_recv hK hP (ci := 1) (q0 := 0) rfl rfl, fun U hU hW => ⟨rfl, b1R_at hP hK hU hW, hD⟩⟩ rfl rfl hl.1 rfl (lv_room (Nat.le_of_ble_eq_true rfl)) dX1_raise_21 ⟨Nat.le_of_ble_eq_true rfl, Nat.le_of_ble_eq_true rfl⟩) hS (fun q _ h => h) (fun q h => h) (fun r21 u21 t H locs ht hvm hw21 hB hz hk hS => ?_)
      obtain ⟨hw21, bz21⟩ := hw21
      obtain ⟨hP, hD⟩ := hB
      rw [ht] at hP
      refine lv_if_ne (tgt := 65) hx hb dX1_raise_24 (by decide) (fun c24 => ?_) (fun c24 => ?_)
      · skip
        refine lv_iconst (v := 0) hx hb dX1_raise_65 (by decide) ?_
        rw [hQ]
        exact W.iret (v := 0) hx hb hr (fun t ht hW => ⟨⟨0, u21, rfl, (hR.trans (by simp only [f_X1_raise, if_neg c5, if_pos c12, hw21, if_neg c24])), by rw [ht]; exact hP, hD⟩, hS.F ht⟩) hS.2.2 dX1_raise_66
      · skip
        exact absurd rfl (no_ok hw21 c24)
    · skip
      have hi12 := isSlot_in c12
      refine lv_iconst (v := 1) hx hb dX1_raise_15 (by decide) ?_
      refine lv_goto (tgt := 20) hx hb dX1_raise_16 (by decide) ?_
      refine lv_iconst (v := 1) hx hb dX1_raise_20 (by decide) ?_
      refine va_calli (va_runV (As := [.int 1, .int 1]) (rest := []) ⟨hx, hb, hml, hown, hts⟩ (met_X1_no l D cI cJ bd A T 1 1) (cwV 2 hts gX1_raise_X1_no rfl rfl rfl (by decide +kernel) ⟨Nat.le_of_ble_eq_true rfl, Nat.le_of_ble_eq_true rfl⟩) ⟨fun a U g mk q => ⟨q.1, b1R_calling q.2.1, q.2.2⟩, va_recv hK hP (ci := 1) (q0 := 0) rfl rfl, fun U hU hW => ⟨rfl, b1R_at hP hK hU hW, hD⟩⟩ rfl rfl hl.1 rfl (lv_room (Nat.le_of_ble_eq_true rfl)) dX1_raise_21 ⟨Nat.le_of_ble_eq_true rfl, Nat.le_of_ble_eq_true rfl⟩) hS (fun q _ h => h) (fun q h => h) (fun r21 u21 t H locs ht hvm hw21 hB hz hk hS => ?_)
      obtain ⟨hw21, bz21⟩ := hw21
      obtain ⟨hP, hD⟩ := hB
      rw [ht] at hP
      refine lv_if_ne (tgt := 65) hx hb dX1_raise_24 (by decide) (fun c24 => ?_) (fun c24 => ?_)
      · skip
        refine lv_iconst (v := 0) hx hb dX1_raise_65 (by decide) ?_
        rw [hQ]
        exact W.iret (v := 0) hx hb hr (fun t ht hW => ⟨⟨0, u21, rfl, (hR.trans (by simp only [f_X1_raise, if_neg c5, if_neg c12, hw21, if_neg c24])), by rw [ht]; exact hP, hD⟩, hS.F ht⟩) hS.2.2 dX1_raise_66
      · skip
        refine lv_aload_n hx hb dX1_raise_27 rfl (lv_at hl 0 rfl) ?_
        refine lv_iload_n hx hb dX1_raise_28 rfl (lv_at hl 2 rfl) ?_
        refine lv_bipush (v := (-64)) hx hb dX1_raise_29 (by decide) ?_
        refine lv_bipush (v := 64) hx hb dX1_raise_31 (by decide) ?_
        refine va_calli (va_runS (As := [.int p1, .int (-64), .int 64]) (rest := [.ref (bd 0)]) ⟨hx, hb, hml, hown, hts⟩ (met_X1_isFrom l p1 (-64) 64) (va_cwS 3 hts gX1_raise_X1_isFrom rfl rfl rfl (by decide +kernel) ⟨Nat.le_of_ble_eq_true rfl, Nat.le_of_ble_eq_true rfl⟩) ⟨fun a U g mk q => q, fun U hU hW => ⟨rfl, trivial⟩⟩ rfl rfl hl.1 rfl (lv_room (Nat.le_of_ble_eq_true rfl)) dX1_raise_33 ⟨Nat.le_of_ble_eq_true rfl, Nat.le_of_ble_eq_true rfl⟩) hS (fun q _ h => h.elim) (fun q h => h.elim) (fun r33 u33 t H locs ht hvm hw33 hB hz hk hS => ?_)
        obtain ⟨hw33, bz33⟩ := hw33
        subst hw33
        have hP := hP.kept (fun k q hk9 => hk _ (vx_lt hP hk9) (fun h => h))
        refine lv_iconst (v := 2) hx hb dX1_raise_36 (by decide) ?_
        refine va_calli (va_runV (As := [.int (f_X1_isFrom p1 (-64) 64), .int 2]) (rest := []) ⟨hx, hb, hml, hown, hts⟩ (met_X1_no l D cI cJ bd A u21 (f_X1_isFrom p1 (-64) 64) 2) (cwV 2 hts gX1_raise_X1_no rfl rfl rfl (by decide +kernel) ⟨Nat.le_of_ble_eq_true rfl, Nat.le_of_ble_eq_true rfl⟩) ⟨fun a U g mk q => ⟨q.1, b1R_calling q.2.1, q.2.2⟩, va_recv hK hP (ci := 1) (q0 := 0) rfl rfl, fun U hU hW => ⟨rfl, b1R_at hP hK hU hW, hD⟩⟩ rfl rfl hl.1 rfl (lv_room (Nat.le_of_ble_eq_true rfl)) dX1_raise_37 ⟨Nat.le_of_ble_eq_true rfl, Nat.le_of_ble_eq_true rfl⟩) hS (fun q _ h => h) (fun q h => h) (fun r37 u37 t H locs ht hvm hw37 hB hz hk hS => ?_)
        obtain ⟨hw37, bz37⟩ := hw37
        obtain ⟨hP, hD⟩ := hB
        rw [ht] at hP
        refine lv_if_ne (tgt := 65) hx hb dX1_raise_40 (by decide) (fun c40 => ?_) (fun c40 => ?_)
        · skip
          refine lv_iconst (v := 0) hx hb dX1_raise_65 (by decide) ?_
          rw [hQ]
          exact W.iret (v := 0) hx hb hr (fun t ht hW => ⟨⟨0, u37, rfl, (hR.trans (by simp only [f_X1_raise, if_neg c5, if_neg c12, hw21, if_pos c24, hw37, if_neg c40])), by rw [ht]; exact hP, hD⟩, hS.F ht⟩) hS.2.2 dX1_raise_66
        · skip
          refine lv_aload_n hx hb dX1_raise_43 rfl (lv_at hl 0 rfl) ?_
          refine lv_aload_n hx hb dX1_raise_44 rfl (lv_at hl 0 rfl) ?_
          refine va_get (D := D) (ci := 1) (v := .ref (bd 3)) (C := RX1) (T := TX1) (N := 12) hx hb hts hin hown hK hP 0 rfl rfl 2 (by decide) hf17 (fun _ h9 => h9) rfl dX1_raise_45 ?_
          refine lv_iload_n hx hb dX1_raise_48 rfl (lv_at hl 1 rfl) ?_
          refine va_iald hx hb hK hP 3 0 rfl rfl hi5 dX1_raise_49 ?_
          have J58 : ∀ (w58_0 : Int32) (ls : Array Slot) (H : Heap) (locs : List Loc), lv_has ls 4 [(0, .ref (bd 0)), (1, .int p0), (2, .int p1), (3, .int p2)] → va_S A s.heap H locs → va_P D pCl (mmW cI cJ bd u37) H → va_D A (mmW cI cJ bd u37) → (w58_0 = 0 ∨ w58_0 = 1) → f_X1_raise T p0 p1 p2 = g_X1_raise_58 p0 p1 p2 u37 w58_0 → W p l e (headSpec wsX1_raise ({ frames := 1, cells := 0, slots := 0, locals := 26 } : Room)).room s m ([.ref (bd 0), .int p0, .int p1, .int p2] : List Value).toArray below meth c H locs 0 0 Q (F0 m 58 ls [.int w58_0, .ref (bd 0)]) := by
            intro w58_0 ls H locs hl hS hP hD hb_w58_0 hR
            refine lv_iconst (v := 3) hx hb dX1_raise_58 (by decide) ?_
            refine va_calli (va_runV (As := [.int w58_0, .int 3]) (rest := []) ⟨hx, hb, hml, hown, hts⟩ (met_X1_no l D cI cJ bd A u37 w58_0 3) (cwV 2 hts gX1_raise_X1_no rfl rfl rfl (by decide +kernel) ⟨Nat.le_of_ble_eq_true rfl, Nat.le_of_ble_eq_true rfl⟩) ⟨fun a U g mk q => ⟨q.1, b1R_calling q.2.1, q.2.2⟩, va_recv hK hP (ci := 1) (q0 := 0) rfl rfl, fun U hU hW => ⟨rfl, b1R_at hP hK hU hW, hD⟩⟩ rfl rfl hl.1 rfl (lv_room (Nat.le_of_ble_eq_true rfl)) dX1_raise_59 ⟨Nat.le_of_ble_eq_true rfl, Nat.le_of_ble_eq_true rfl⟩) hS (fun q _ h => h) (fun q h => h) (fun r59 u59 t H locs ht hvm hw59 hB hz hk hS => ?_)
            obtain ⟨hw59, bz59⟩ := hw59
            obtain ⟨hP, hD⟩ := hB
            rw [ht] at hP
            refine lv_if_eq (tgt := 67) hx hb dX1_raise_62 (by decide) (fun c62 => ?_) (fun c62 => ?_)
            · skip
              refine lv_aload_n hx hb dX1_raise_67 rfl (lv_at hl 0 rfl) ?_
              refine lv_aload_n hx hb dX1_raise_68 rfl (lv_at hl 0 rfl) ?_
              refine va_get (D := D) (ci := 1) (v := .ref (bd 1)) (C := RX1) (T := TX1) (N := 12) hx hb hts hin hown hK hP 0 rfl rfl 0 (by decide) hf9 (fun _ h9 => h9) rfl dX1_raise_69 ?_
              refine lv_iload_n hx hb dX1_raise_72 rfl (lv_at hl 1 rfl) ?_
              refine va_iald hx hb hK hP 1 0 rfl rfl hi5 dX1_raise_73 ?_
              have J86 : ∀ (w86_0 : Int32) (ls : Array Slot) (H : Heap) (locs : List Loc), lv_has ls 4 [(0, .ref (bd 0)), (1, .int p0), (2, .int p1), (3, .int p2)] → va_S A s.heap H locs → va_P D pCl (mmW cI cJ bd u59) H → va_D A (mmW cI cJ bd u59) → (w86_0 = 0 ∨ w86_0 = 1) → f_X1_raise T p0 p1 p2 = g_X1_raise_86 p0 p1 p2 u59 w86_0 → W p l e (headSpec wsX1_raise ({ frames := 1, cells := 0, slots := 0, locals := 26 } : Room)).room s m ([.ref (bd 0), .int p0, .int p1, .int p2] : List Value).toArray below meth c H locs 0 0 Q (F0 m 86 ls [.int w86_0, .ref (bd 0)]) := by
                intro w86_0 ls H locs hl hS hP hD hb_w86_0 hR
                refine lv_iconst (v := 4) hx hb dX1_raise_86 (by decide) ?_
                refine va_calli (va_runV (As := [.int w86_0, .int 4]) (rest := []) ⟨hx, hb, hml, hown, hts⟩ (met_X1_no l D cI cJ bd A u59 w86_0 4) (cwV 2 hts gX1_raise_X1_no rfl rfl rfl (by decide +kernel) ⟨Nat.le_of_ble_eq_true rfl, Nat.le_of_ble_eq_true rfl⟩) ⟨fun a U g mk q => ⟨q.1, b1R_calling q.2.1, q.2.2⟩, va_recv hK hP (ci := 1) (q0 := 0) rfl rfl, fun U hU hW => ⟨rfl, b1R_at hP hK hU hW, hD⟩⟩ rfl rfl hl.1 rfl (lv_room (Nat.le_of_ble_eq_true rfl)) dX1_raise_87 ⟨Nat.le_of_ble_eq_true rfl, Nat.le_of_ble_eq_true rfl⟩) hS (fun q _ h => h) (fun q h => h) (fun r87 u87 t H locs ht hvm hw87 hB hz hk hS => ?_)
                obtain ⟨hw87, bz87⟩ := hw87
                obtain ⟨hP, hD⟩ := hB
                rw [ht] at hP
                refine lv_if_ne (tgt := 124) hx hb dX1_raise_90 (by decide) (fun c90 => ?_) (fun c90 => ?_)
                · skip
                  refine lv_iconst (v := 0) hx hb dX1_raise_124 (by decide) ?_
                  rw [hQ]
                  exact W.iret (v := 0) hx hb hr (fun t ht hW => ⟨⟨0, u87, rfl, (hR.trans (by simp only [g_X1_raise_86, hw87, if_neg c90])), by rw [ht]; exact hP, hD⟩, hS.F ht⟩) hS.2.2 dX1_raise_125
                · skip
                  refine lv_aload_n hx hb dX1_raise_93 rfl (lv_at hl 0 rfl) ?_
                  refine lv_aload_n hx hb dX1_raise_94 rfl (lv_at hl 0 rfl) ?_
                  refine lv_aload_n hx hb dX1_raise_95 rfl (lv_at hl 0 rfl) ?_
                  refine va_get (D := D) (ci := 1) (v := .ref (bd 1)) (C := RX1) (T := TX1) (N := 12) hx hb hts hin hown hK hP 0 rfl rfl 0 (by decide) hf9 (fun _ h9 => h9) rfl dX1_raise_96 ?_
                  refine lv_iload_n hx hb dX1_raise_99 rfl (lv_at hl 1 rfl) ?_
                  refine va_iald hx hb hK hP 1 0 rfl rfl hi5 dX1_raise_100 ?_
                  refine lv_aload_n hx hb dX1_raise_101 rfl (lv_at hl 0 rfl) ?_
                  refine va_get (D := D) (ci := 1) (v := .ref (bd 2)) (C := RX1) (T := TX1) (N := 12) hx hb hts hin hown hK hP 0 rfl rfl 1 (by decide) hf13 (fun _ h9 => h9) rfl dX1_raise_102 ?_
                  refine lv_iload_n hx hb dX1_raise_105 rfl (lv_at hl 1 rfl) ?_
                  refine va_lald hx hb hK hP 2 1 rfl rfl hi5 dX1_raise_106 ?_
                  refine lv_aload_n hx hb dX1_raise_107 rfl (lv_at hl 0 rfl) ?_
                  refine va_get (D := D) (ci := 1) (v := .ref (bd 3)) (C := RX1) (T := TX1) (N := 12) hx hb hts hin hown hK hP 0 rfl rfl 2 (by decide) hf17 (fun _ h9 => h9) rfl dX1_raise_108 ?_
                  refine lv_iload_n hx hb dX1_raise_111 rfl (lv_at hl 1 rfl) ?_
                  refine va_iald hx hb hK hP 3 0 rfl rfl hi5 dX1_raise_112 ?_
                  refine lv_iload_n hx hb dX1_raise_113 rfl (lv_at hl 2 rfl) ?_
                  refine va_calli (va_runV (As := [.int ((sgT u87) p0.toNatClampNeg), .long ((odT u87) p0.toNatClampNeg), .int ((shT u87) p0.toNatClampNeg), .int p1]) (rest := [.ref (bd 0)]) ⟨hx, hb, hml, hown, hts⟩ (met_X1_isTold l D cI cJ bd A u87 ((sgT u87) p0.toNatClampNeg) ((odT u87) p0.toNatClampNeg) ((shT u87) p0.toNatClampNeg) p1) (cwV 4 hts gX1_raise_X1_isTold rfl rfl rfl (by decide +kernel) ⟨Nat.le_of_ble_eq_true rfl, Nat.le_of_ble_eq_true rfl⟩) ⟨fun a U g mk q => ⟨q.1, b1R_calling q.2.1, q.2.2⟩, va_recv hK hP (ci := 1) (q0 := 0) rfl rfl, fun U hU hW => ⟨rfl, b1R_at hP hK hU hW, hD⟩⟩ rfl rfl hl.1 rfl (lv_room (Nat.le_of_ble_eq_true rfl)) dX1_raise_114 ⟨Nat.le_of_ble_eq_true rfl, Nat.le_of_ble_eq_true rfl⟩) hS (fun q _ h => h) (fun q h => h) (fun r114 u114 t H locs ht hvm hw114 hB hz hk hS => ?_)
                  obtain ⟨hw114, bz114⟩ := hw114
                  obtain ⟨hP, hD⟩ := hB
                  rw [ht] at hP
                  refine lv_iconst (v := 5) hx hb dX1_raise_117 (by decide) ?_
                  refine va_calli (va_runV (As := [.int r114, .int 5]) (rest := []) ⟨hx, hb, hml, hown, hts⟩ (met_X1_no l D cI cJ bd A u114 r114 5) (cwV 2 hts gX1_raise_X1_no rfl rfl rfl (by decide +kernel) ⟨Nat.le_of_ble_eq_true rfl, Nat.le_of_ble_eq_true rfl⟩) ⟨fun a U g mk q => ⟨q.1, b1R_calling q.2.1, q.2.2⟩, va_recv hK hP (ci := 1) (q0 := 0) rfl rfl, fun U hU hW => ⟨rfl, b1R_at hP hK hU hW, hD⟩⟩ rfl rfl hl.1 rfl (lv_room (Nat.le_of_ble_eq_true rfl)) dX1_raise_118 ⟨Nat.le_of_ble_eq_true rfl, Nat.le_of_ble_eq_true rfl⟩) hS (fun q _ h => h) (fun q h => h) (fun r118 u118 t H locs ht hvm hw118 hB hz hk hS => ?_)
                  obtain ⟨hw118, bz118⟩ := hw118
                  obtain ⟨hP, hD⟩ := hB
                  rw [ht] at hP
                  refine lv_if_eq (tgt := 126) hx hb dX1_raise_121 (by decide) (fun c121 => ?_) (fun c121 => ?_)
                  · skip
                    refine lv_aload_n hx hb dX1_raise_126 rfl (lv_at hl 0 rfl) ?_
                    refine lv_iload_n hx hb dX1_raise_127 rfl (lv_at hl 3 rfl) ?_
                    refine lv_aload_n hx hb dX1_raise_128 rfl (lv_at hl 0 rfl) ?_
                    refine va_get (D := D) (ci := 1) (v := .int (psT u118)) (C := RX1) (T := TX1) (N := 12) hx hb hts hin hown hK hP 0 rfl rfl 8 (by decide) hf51 (fun _ h9 => h9) rfl dX1_raise_129 ?_
                    refine lv_aload_n hx hb dX1_raise_132 rfl (lv_at hl 0 rfl) ?_
                    refine va_get (D := D) (ci := 1) (v := .long (poT u118)) (C := RX1) (T := TX1) (N := 12) hx hb hts hin hown hK hP 0 rfl rfl 9 (by decide) hf54 (fun _ h9 => h9) rfl dX1_raise_133 ?_
                    refine lv_aload_n hx hb dX1_raise_136 rfl (lv_at hl 0 rfl) ?_
                    refine va_get (D := D) (ci := 1) (v := .int (phT u118)) (C := RX1) (T := TX1) (N := 12) hx hb hts hin hown hK hP 0 rfl rfl 10 (by decide) hf58 (fun _ h9 => h9) rfl dX1_raise_137 ?_
                    refine va_calli (va_runV (As := [.int p2, .int (psT u118), .long (poT u118), .int (phT u118)]) (rest := []) ⟨hx, hb, hml, hown, hts⟩ (met_X1_become l D cI cJ bd A u118 p2 (psT u118) (poT u118) (phT u118) (hi12) (kp_of (no_kp hw118) (kp_of (isTold_kp hw114) (kp_of (no_kp hw87) (kp_of (no_kp hw59) (kp_of (no_kp hw37) (kp_of (no_kp hw21) hkp))))))) (cwV 4 hts gX1_raise_X1_become rfl rfl rfl (by decide +kernel) ⟨Nat.le_of_ble_eq_true rfl, Nat.le_of_ble_eq_true rfl⟩) ⟨fun a U g mk q => ⟨q.1, b1R_calling q.2.1, q.2.2⟩, va_recv hK hP (ci := 1) (q0 := 0) rfl rfl, fun U hU hW => ⟨rfl, b1R_at hP hK hU hW, hD⟩⟩ rfl rfl hl.1 rfl (lv_room (Nat.le_of_ble_eq_true rfl)) dX1_raise_140 ⟨Nat.le_of_ble_eq_true rfl, Nat.le_of_ble_eq_true rfl⟩) hS (fun q _ h => h) (fun q h => h) (fun r140 u140 t H locs ht hvm hw140 hB hz hk hS => ?_)
                    obtain ⟨hP, hD⟩ := hB
                    rw [ht] at hP
                    rw [hQ]
                    exact W.iret (v := r140) hx hb hr (fun t ht hW => ⟨⟨r140, u140, rfl, (hR.trans (by simp only [g_X1_raise_86, hw87, if_pos c90, hw114, hw118, if_pos c121, hw140])), by rw [ht]; exact hP, hD⟩, hS.F ht⟩) hS.2.2 dX1_raise_143
                  · skip
                    refine lv_iconst (v := 0) hx hb dX1_raise_124 (by decide) ?_
                    rw [hQ]
                    exact W.iret (v := 0) hx hb hr (fun t ht hW => ⟨⟨0, u118, rfl, (hR.trans (by simp only [g_X1_raise_86, hw87, if_pos c90, hw114, hw118, if_neg c121])), by rw [ht]; exact hP, hD⟩, hS.F ht⟩) hS.2.2 dX1_raise_125
              have J81 : ∀ (ls : Array Slot) (H : Heap) (locs : List Loc), lv_has ls 4 [(0, .ref (bd 0)), (1, .int p0), (2, .int p1), (3, .int p2)] → va_S A s.heap H locs → va_P D pCl (mmW cI cJ bd u59) H → va_D A (mmW cI cJ bd u59) → f_X1_raise T p0 p1 p2 = g_X1_raise_81 p0 p1 p2 u59 → W p l e (headSpec wsX1_raise ({ frames := 1, cells := 0, slots := 0, locals := 26 } : Room)).room s m ([.ref (bd 0), .int p0, .int p1, .int p2] : List Value).toArray below meth c H locs 0 0 Q (F0 m 81 ls [.ref (bd 0)]) := by
                intro ls H locs hl hS hP hD hR
                refine lv_iconst (v := 1) hx hb dX1_raise_81 (by decide) ?_
                refine lv_goto (tgt := 86) hx hb dX1_raise_82 (by decide) ?_
                exact J86 1 ls _ _ (lv_sub hl [0, 1, 2, 3] rfl) hS hP hD (Or.inr rfl) (hR.trans (by simp only [g_X1_raise_81]))
              refine lv_if_ne (tgt := 81) hx hb dX1_raise_74 (by decide) (fun c74 => ?_) (fun c74 => ?_)
              · skip
                exact J81 ls _ _ (lv_sub hl [0, 1, 2, 3] rfl) hS hP hD (hR.trans (by simp only [g_X1_raise_58, hw59, if_pos c62, if_neg c74]))
              · skip
                refine lv_iload_n hx hb dX1_raise_77 rfl (lv_at hl 2 rfl) ?_
                refine lv_if_lt (tgt := 85) hx hb dX1_raise_78 (by decide) (fun c78 => ?_) (fun c78 => ?_)
                · skip
                  refine lv_iconst (v := 0) hx hb dX1_raise_85 (by decide) ?_
                  exact J86 0 ls _ _ (lv_sub hl [0, 1, 2, 3] rfl) hS hP hD (Or.inl rfl) (hR.trans (by simp only [g_X1_raise_58, hw59, if_pos c62, if_pos c74, if_pos c78]))
                · skip
                  exact J81 ls _ _ (lv_sub hl [0, 1, 2, 3] rfl) hS hP hD (hR.trans (by simp only [g_X1_raise_58, hw59, if_pos c62, if_pos c74, if_neg c78]))
            · skip
              refine lv_iconst (v := 0) hx hb dX1_raise_65 (by decide) ?_
              rw [hQ]
              exact W.iret (v := 0) hx hb hr (fun t ht hW => ⟨⟨0, u59, rfl, (hR.trans (by simp only [g_X1_raise_58, hw59, if_neg c62])), by rw [ht]; exact hP, hD⟩, hS.F ht⟩) hS.2.2 dX1_raise_66
          refine lv_if_lt (tgt := 57) hx hb dX1_raise_50 (by decide) (fun c50 => ?_) (fun c50 => ?_)
          · skip
            refine lv_iconst (v := 0) hx hb dX1_raise_57 (by decide) ?_
            exact J58 0 ls _ _ (lv_sub hl [0, 1, 2, 3] rfl) hS hP hD (Or.inl rfl) (hR.trans (by simp only [f_X1_raise, if_neg c5, if_neg c12, hw21, if_pos c24, hw37, if_pos c40, if_pos c50]))
          · skip
            refine lv_iconst (v := 1) hx hb dX1_raise_53 (by decide) ?_
            refine lv_goto (tgt := 58) hx hb dX1_raise_54 (by decide) ?_
            exact J58 1 ls _ _ (lv_sub hl [0, 1, 2, 3] rfl) hS hP hD (Or.inr rfl) (hR.trans (by simp only [f_X1_raise, if_neg c5, if_neg c12, hw21, if_pos c24, hw37, if_pos c40, if_neg c50]))

def f_X1_copy (T : pT) (p0 : Int32) (p1 : Int32) : Int32 × pT := (if ((f_X1_isSlot p0) : Int32) = 0 then (match f_X1_no T 0 1 with | (r21, u21) => (if (r21 : Int32) = 0 then (0, T) else (0, u21))) else (if ((f_X1_isSlot p1) : Int32) = 0 then (match f_X1_no T 0 1 with | (r21, u21) => (if (r21 : Int32) = 0 then (0, T) else (0, u21))) else (match f_X1_no T 1 1 with | (r21, u21) => (if (r21 : Int32) = 0 then (match f_X1_become u21 p1 ((sgT u21) p0.toNatClampNeg) ((odT u21) p0.toNatClampNeg) ((shT u21) p0.toNatClampNeg) with | (r49, u49) => (r49, u49)) else (0, u21)))))
set_option maxHeartbeats 4000000 in
set_option maxRecDepth 100000 in
theorem met_X1_copy (l : Launch) (D : va_G) (cI cJ : ClassId) (bd : Nat → Nat) (A : Nat → Prop) (T : pT) (p0 : Int32) (p1 : Int32) (hkp : kpR T) : Met l yX1_copy wsX1_copy ({ frames := 1, cells := 0, slots := 0, locals := 26 } : Room) (va_Pc [.ref (bd 0), .int p0, .int p1] (fun U => b1R D cI cJ bd T U ∧ va_D A (mmW cI cJ bd T))) (va_Qi (fun (r : Int32) (u : pT) => f_X1_copy T p0 p1 = (r, u)) (fun (u : pT) t => va_P D pCl (mmW cI cJ bd u) t.heap ∧ va_D A (mmW cI cJ bd u)) A) 0 0 A := by
  refine Met.ofW (cc := cX1_copy) (maxL := 3) (ret := (some .int)) (by decide) rfl ?_
  intro p e s m args below meth c s₁ B hml hv
  obtain ⟨rfl, ⟨hP, hK⟩, hD⟩ := hv
  have hx := B.exec
  have hb := B.bytes
  have hr := B.returns
  have hts := atoms_spec (ws := wsX1_copy) B.pre
  have hown : s.vm.findClass RX1 = some m.cls := findClass_of_methodNamed B.named
  have hlocks := B.notSynchronized
  have hS : va_S A s.heap s.heap [] := va_S.rf
  have hin : ∀ w ∈ wsX10, w ∈ wsX1_copy := by decide +kernel
  have hf9 := hts (.fieldLink RX1 9 "PowermillModel" "sign" "[I") (by decide +kernel)
  have hf13 := hts (.fieldLink RX1 13 "PowermillModel" "odd" "[J") (by decide +kernel)
  have hf17 := hts (.fieldLink RX1 17 "PowermillModel" "shift" "[I") (by decide +kernel)
  have hl := lv_entry ([.ref (bd 0), .int p0, .int p1]) (n := 3) (Nat.le_of_ble_eq_true rfl)
  rw [lg_entry_eq]
  generalize (lg_sl ([.ref (bd 0), .int p0, .int p1]) ++ List.replicate (3 - (lg_sl ([.ref (bd 0), .int p0, .int p1])).length) Slot.unset).toArray = ls at hl ⊢
  have hl : lv_has ls 3 [(0, .ref (bd 0)), (1, .int p0), (2, .int p1)] := hl
  obtain ⟨Q, hQ⟩ : ∃ Q : State → Prop, Q = (MQ below (va_Qi (fun (r : Int32) (u : pT) => f_X1_copy T p0 p1 = (r, u)) (fun (u : pT) t => va_P D pCl (mmW cI cJ bd u) t.heap ∧ va_D A (mmW cI cJ bd u)) A) ([.ref (bd 0), .int p0, .int p1] : List Value).toArray s 0 0 A) := ⟨_, rfl⟩
  rw [← hQ]
  have hR : f_X1_copy T p0 p1 = f_X1_copy T p0 p1 := rfl
  refine lv_aload_n hx hb dX1_copy_0 rfl (lv_at hl 0 rfl) ?_
  refine lv_iload_n hx hb dX1_copy_1 rfl (lv_at hl 1 rfl) ?_
  refine va_calli (va_runS (As := [.int p0]) (rest := [.ref (bd 0)]) ⟨hx, hb, hml, hown, hts⟩ (met_X1_isSlot l p0) (va_cwS 1 hts gX1_copy_X1_isSlot rfl rfl rfl (by decide +kernel) ⟨Nat.le_of_ble_eq_true rfl, Nat.le_of_ble_eq_true rfl⟩) ⟨fun a U g mk q => q, fun U hU hW => ⟨rfl, trivial⟩⟩ rfl rfl hl.1 rfl (lv_room (Nat.le_of_ble_eq_true rfl)) dX1_copy_2 ⟨Nat.le_of_ble_eq_true rfl, Nat.le_of_ble_eq_true rfl⟩) hS (fun q _ h => h.elim) (fun q h => h.elim) (fun r2 u2 t H locs ht hvm hw2 hB hz hk hS => ?_)
  obtain ⟨hw2, bz2⟩ := hw2
  subst hw2
  have hP := hP.kept (fun k q hk9 => hk _ (vx_lt hP hk9) (fun h => h))
  refine lv_if_eq (tgt := 19) hx hb dX1_copy_5 (by decide) (fun c5 => ?_) (fun c5 => ?_)
  · skip
    refine lv_iconst (v := 0) hx hb dX1_copy_19 (by decide) ?_
    refine lv_iconst (v := 1) hx hb dX1_copy_20 (by decide) ?_
    refine va_calli (va_runV (As := [.int 0, .int 1]) (rest := []) ⟨hx, hb, hml, hown, hts⟩ (met_X1_no l D cI cJ bd A T 0 1) (cwV 2 hts gX1_copy_X1_no rfl rfl rfl (by decide +kernel) ⟨Nat.le_of_ble_eq_true rfl, Nat.le_of_ble_eq_true rfl⟩) ⟨fun a U g mk q => ⟨q.1, b1R_calling q.2.1, q.2.2⟩, va_recv hK hP (ci := 1) (q0 := 0) rfl rfl, fun U hU hW => ⟨rfl, b1R_at hP hK hU hW, hD⟩⟩ rfl rfl hl.1 rfl (lv_room (Nat.le_of_ble_eq_true rfl)) dX1_copy_21 ⟨Nat.le_of_ble_eq_true rfl, Nat.le_of_ble_eq_true rfl⟩) hS (fun q _ h => h) (fun q h => h) (fun r21 u21 t H locs ht hvm hw21 hB hz hk hS => ?_)
    obtain ⟨hw21, bz21⟩ := hw21
    obtain ⟨hP, hD⟩ := hB
    rw [ht] at hP
    refine lv_if_eq (tgt := 29) hx hb dX1_copy_24 (by decide) (fun c24 => ?_) (fun c24 => ?_)
    · skip
      exact absurd rfl (no_ok hw21 c24)
    · skip
      refine lv_iconst (v := 0) hx hb dX1_copy_27 (by decide) ?_
      rw [hQ]
      exact W.iret (v := 0) hx hb hr (fun t ht hW => ⟨⟨0, u21, rfl, (hR.trans (by simp only [f_X1_copy, if_pos c5, hw21, if_neg c24])), by rw [ht]; exact hP, hD⟩, hS.F ht⟩) hS.2.2 dX1_copy_28
  · skip
    have hi5 := isSlot_in c5
    refine lv_iload_n hx hb dX1_copy_8 rfl (lv_at hl 2 rfl) ?_
    refine va_calli (va_runS (As := [.int p1]) (rest := [.ref (bd 0)]) ⟨hx, hb, hml, hown, hts⟩ (met_X1_isSlot l p1) (va_cwS 1 hts gX1_copy_X1_isSlot rfl rfl rfl (by decide +kernel) ⟨Nat.le_of_ble_eq_true rfl, Nat.le_of_ble_eq_true rfl⟩) ⟨fun a U g mk q => q, fun U hU hW => ⟨rfl, trivial⟩⟩ rfl rfl hl.1 rfl (lv_room (Nat.le_of_ble_eq_true rfl)) dX1_copy_9 ⟨Nat.le_of_ble_eq_true rfl, Nat.le_of_ble_eq_true rfl⟩) hS (fun q _ h => h.elim) (fun q h => h.elim) (fun r9 u9 t H locs ht hvm hw9 hB hz hk hS => ?_)
    obtain ⟨hw9, bz9⟩ := hw9
    subst hw9
    have hP := hP.kept (fun k q hk9 => hk _ (vx_lt hP hk9) (fun h => h))
    refine lv_if_eq (tgt := 19) hx hb dX1_copy_12 (by decide) (fun c12 => ?_) (fun c12 => ?_)
    · skip
      refine lv_iconst (v := 0) hx hb dX1_copy_19 (by decide) ?_
      refine lv_iconst (v := 1) hx hb dX1_copy_20 (by decide) ?_
      refine va_calli (va_runV (As := [.int 0, .int 1]) (rest := []) ⟨hx, hb, hml, hown, hts⟩ (met_X1_no l D cI cJ bd A T 0 1) (cwV 2 hts gX1_copy_X1_no rfl rfl rfl (by decide +kernel) ⟨Nat.le_of_ble_eq_true rfl, Nat.le_of_ble_eq_true rfl⟩) ⟨fun a U g mk q => ⟨q.1, b1R_calling q.2.1, q.2.2⟩, va_recv hK hP (ci := 1) (q0 := 0) rfl rfl, fun U hU hW => ⟨rfl, b1R_at hP hK hU hW, hD⟩⟩ rfl rfl hl.1 rfl (lv_room (Nat.le_of_ble_eq_true rfl)) dX1_copy_21 ⟨Nat.le_of_ble_eq_true rfl, Nat.le_of_ble_eq_true rfl⟩) hS (fun q _ h => h) (fun q h => h) (fun r21 u21 t H locs ht hvm hw21 hB hz hk hS => ?_)
      obtain ⟨hw21, bz21⟩ := hw21
      obtain ⟨hP, hD⟩ := hB
      rw [ht] at hP
      refine lv_if_eq (tgt := 29) hx hb dX1_copy_24 (by decide) (fun c24 => ?_) (fun c24 => ?_)
      · skip
        exact absurd rfl (no_ok hw21 c24)
      · skip
        refine lv_iconst (v := 0) hx hb dX1_copy_27 (by decide) ?_
        rw [hQ]
        exact W.iret (v := 0) hx hb hr (fun t ht hW => ⟨⟨0, u21, rfl, (hR.trans (by simp only [f_X1_copy, if_neg c5, if_pos c12, hw21, if_neg c24])), by rw [ht]; exact hP, hD⟩, hS.F ht⟩) hS.2.2 dX1_copy_28
    · skip
      have hi12 := isSlot_in c12
      refine lv_iconst (v := 1) hx hb dX1_copy_15 (by decide) ?_
      refine lv_goto (tgt := 20) hx hb dX1_copy_16 (by decide) ?_
      refine lv_iconst (v := 1) hx hb dX1_copy_20 (by decide) ?_
      refine va_calli (va_runV (As := [.int 1, .int 1]) (rest := []) ⟨hx, hb, hml, hown, hts⟩ (met_X1_no l D cI cJ bd A T 1 1) (cwV 2 hts gX1_copy_X1_no rfl rfl rfl (by decide +kernel) ⟨Nat.le_of_ble_eq_true rfl, Nat.le_of_ble_eq_true rfl⟩) ⟨fun a U g mk q => ⟨q.1, b1R_calling q.2.1, q.2.2⟩, va_recv hK hP (ci := 1) (q0 := 0) rfl rfl, fun U hU hW => ⟨rfl, b1R_at hP hK hU hW, hD⟩⟩ rfl rfl hl.1 rfl (lv_room (Nat.le_of_ble_eq_true rfl)) dX1_copy_21 ⟨Nat.le_of_ble_eq_true rfl, Nat.le_of_ble_eq_true rfl⟩) hS (fun q _ h => h) (fun q h => h) (fun r21 u21 t H locs ht hvm hw21 hB hz hk hS => ?_)
      obtain ⟨hw21, bz21⟩ := hw21
      obtain ⟨hP, hD⟩ := hB
      rw [ht] at hP
      refine lv_if_eq (tgt := 29) hx hb dX1_copy_24 (by decide) (fun c24 => ?_) (fun c24 => ?_)
      · skip
        refine lv_aload_n hx hb dX1_copy_29 rfl (lv_at hl 0 rfl) ?_
        refine lv_iload_n hx hb dX1_copy_30 rfl (lv_at hl 2 rfl) ?_
        refine lv_aload_n hx hb dX1_copy_31 rfl (lv_at hl 0 rfl) ?_
        refine va_get (D := D) (ci := 1) (v := .ref (bd 1)) (C := RX1) (T := TX1) (N := 12) hx hb hts hin hown hK hP 0 rfl rfl 0 (by decide) hf9 (fun _ h9 => h9) rfl dX1_copy_32 ?_
        refine lv_iload_n hx hb dX1_copy_35 rfl (lv_at hl 1 rfl) ?_
        refine va_iald hx hb hK hP 1 0 rfl rfl hi5 dX1_copy_36 ?_
        refine lv_aload_n hx hb dX1_copy_37 rfl (lv_at hl 0 rfl) ?_
        refine va_get (D := D) (ci := 1) (v := .ref (bd 2)) (C := RX1) (T := TX1) (N := 12) hx hb hts hin hown hK hP 0 rfl rfl 1 (by decide) hf13 (fun _ h9 => h9) rfl dX1_copy_38 ?_
        refine lv_iload_n hx hb dX1_copy_41 rfl (lv_at hl 1 rfl) ?_
        refine va_lald hx hb hK hP 2 1 rfl rfl hi5 dX1_copy_42 ?_
        refine lv_aload_n hx hb dX1_copy_43 rfl (lv_at hl 0 rfl) ?_
        refine va_get (D := D) (ci := 1) (v := .ref (bd 3)) (C := RX1) (T := TX1) (N := 12) hx hb hts hin hown hK hP 0 rfl rfl 2 (by decide) hf17 (fun _ h9 => h9) rfl dX1_copy_44 ?_
        refine lv_iload_n hx hb dX1_copy_47 rfl (lv_at hl 1 rfl) ?_
        refine va_iald hx hb hK hP 3 0 rfl rfl hi5 dX1_copy_48 ?_
        refine va_calli (va_runV (As := [.int p1, .int ((sgT u21) p0.toNatClampNeg), .long ((odT u21) p0.toNatClampNeg), .int ((shT u21) p0.toNatClampNeg)]) (rest := []) ⟨hx, hb, hml, hown, hts⟩ (met_X1_become l D cI cJ bd A u21 p1 ((sgT u21) p0.toNatClampNeg) ((odT u21) p0.toNatClampNeg) ((shT u21) p0.toNatClampNeg) (hi12) (kp_of (no_kp hw21) hkp)) (cwV 4 hts gX1_copy_X1_become rfl rfl rfl (by decide +kernel) ⟨Nat.le_of_ble_eq_true rfl, Nat.le_of_ble_eq_true rfl⟩) ⟨fun a U g mk q => ⟨q.1, b1R_calling q.2.1, q.2.2⟩, va_recv hK hP (ci := 1) (q0 := 0) rfl rfl, fun U hU hW => ⟨rfl, b1R_at hP hK hU hW, hD⟩⟩ rfl rfl hl.1 rfl (lv_room (Nat.le_of_ble_eq_true rfl)) dX1_copy_49 ⟨Nat.le_of_ble_eq_true rfl, Nat.le_of_ble_eq_true rfl⟩) hS (fun q _ h => h) (fun q h => h) (fun r49 u49 t H locs ht hvm hw49 hB hz hk hS => ?_)
        obtain ⟨hP, hD⟩ := hB
        rw [ht] at hP
        rw [hQ]
        exact W.iret (v := r49) hx hb hr (fun t ht hW => ⟨⟨r49, u49, rfl, (hR.trans (by simp only [f_X1_copy, if_neg c5, if_neg c12, hw21, if_pos c24, hw49])), by rw [ht]; exact hP, hD⟩, hS.F ht⟩) hS.2.2 dX1_copy_52
      · skip
        refine lv_iconst (v := 0) hx hb dX1_copy_27 (by decide) ?_
        rw [hQ]
        exact W.iret (v := 0) hx hb hr (fun t ht hW => ⟨⟨0, u21, rfl, (hR.trans (by simp only [f_X1_copy, if_neg c5, if_neg c12, hw21, if_neg c24])), by rw [ht]; exact hP, hD⟩, hS.F ht⟩) hS.2.2 dX1_copy_28

def f_X1_undo (T : pT) : Int32 × pT := (if ((kpT T) : Int32) ≤ 0 then (match f_X1_no T 0 1 with | (r14, u14) => (if (r14 : Int32) = 0 then (0, T) else (0, u14))) else (match f_X1_no T 1 1 with | (r14, u14) => (if (r14 : Int32) = 0 then (((ksT u14) ((kpT u14) - 1).toNatClampNeg), ((upd (sgT u14) ((ksT u14) ((kpT u14) - 1).toNatClampNeg).toNatClampNeg ((kgT u14) ((kpT u14) - 1).toNatClampNeg)), (vp_updL (odT u14) ((ksT u14) ((kpT u14) - 1).toNatClampNeg).toNatClampNeg ((koT u14) ((kpT u14) - 1).toNatClampNeg)), (upd (shT u14) ((ksT u14) ((kpT u14) - 1).toNatClampNeg).toNatClampNeg ((khT u14) ((kpT u14) - 1).toNatClampNeg)), ksT u14, kgT u14, koT u14, khT u14, ((kpT u14) - 1), psT u14, poT u14, phT u14, thT u14)) else (0, u14))))
set_option maxHeartbeats 4000000 in
set_option maxRecDepth 100000 in
theorem met_X1_undo (l : Launch) (D : va_G) (cI cJ : ClassId) (bd : Nat → Nat) (A : Nat → Prop) (T : pT) (hkp : kpR T) (hks : ksR T) : Met l yX1_undo wsX1_undo ({ frames := 1, cells := 0, slots := 0, locals := 22 } : Room) (va_Pc [.ref (bd 0)] (fun U => b1R D cI cJ bd T U ∧ va_D A (mmW cI cJ bd T))) (va_Qi (fun (r : Int32) (u : pT) => f_X1_undo T = (r, u)) (fun (u : pT) t => va_P D pCl (mmW cI cJ bd u) t.heap ∧ va_D A (mmW cI cJ bd u)) A) 0 0 A := by
  refine Met.ofW (cc := cX1_undo) (maxL := 2) (ret := (some .int)) (by decide) rfl ?_
  intro p e s m args below meth c s₁ B hml hv
  obtain ⟨rfl, ⟨hP, hK⟩, hD⟩ := hv
  have hx := B.exec
  have hb := B.bytes
  have hr := B.returns
  have hts := atoms_spec (ws := wsX1_undo) B.pre
  have hown : s.vm.findClass RX1 = some m.cls := findClass_of_methodNamed B.named
  have hlocks := B.notSynchronized
  have hS : va_S A s.heap s.heap [] := va_S.rf
  have hin : ∀ w ∈ wsX10, w ∈ wsX1_undo := by decide +kernel
  have hf9 := hts (.fieldLink RX1 9 "PowermillModel" "sign" "[I") (by decide +kernel)
  have hf13 := hts (.fieldLink RX1 13 "PowermillModel" "odd" "[J") (by decide +kernel)
  have hf17 := hts (.fieldLink RX1 17 "PowermillModel" "shift" "[I") (by decide +kernel)
  have hf20 := hts (.fieldLink RX1 20 "PowermillModel" "oldSlot" "[I") (by decide +kernel)
  have hf23 := hts (.fieldLink RX1 23 "PowermillModel" "oldSign" "[I") (by decide +kernel)
  have hf26 := hts (.fieldLink RX1 26 "PowermillModel" "oldOdd" "[J") (by decide +kernel)
  have hf29 := hts (.fieldLink RX1 29 "PowermillModel" "oldShift" "[I") (by decide +kernel)
  have hf32 := hts (.fieldLink RX1 32 "PowermillModel" "kept" "I") (by decide +kernel)
  have hl := lv_entry ([.ref (bd 0)]) (n := 2) (Nat.le_of_ble_eq_true rfl)
  rw [lg_entry_eq]
  generalize (lg_sl ([.ref (bd 0)]) ++ List.replicate (2 - (lg_sl ([.ref (bd 0)])).length) Slot.unset).toArray = ls at hl ⊢
  have hl : lv_has ls 2 [(0, .ref (bd 0))] := hl
  obtain ⟨Q, hQ⟩ : ∃ Q : State → Prop, Q = (MQ below (va_Qi (fun (r : Int32) (u : pT) => f_X1_undo T = (r, u)) (fun (u : pT) t => va_P D pCl (mmW cI cJ bd u) t.heap ∧ va_D A (mmW cI cJ bd u)) A) ([.ref (bd 0)] : List Value).toArray s 0 0 A) := ⟨_, rfl⟩
  rw [← hQ]
  have hR : f_X1_undo T = f_X1_undo T := rfl
  refine lv_aload_n hx hb dX1_undo_0 rfl (lv_at hl 0 rfl) ?_
  refine lv_aload_n hx hb dX1_undo_1 rfl (lv_at hl 0 rfl) ?_
  refine va_get (D := D) (ci := 1) (v := .int (kpT T)) (C := RX1) (T := TX1) (N := 12) hx hb hts hin hown hK hP 0 rfl rfl 7 (by decide) hf32 (fun _ h9 => h9) rfl dX1_undo_2 ?_
  refine lv_if_le (tgt := 12) hx hb dX1_undo_5 (by decide) (fun c5 => ?_) (fun c5 => ?_)
  · skip
    refine lv_iconst (v := 0) hx hb dX1_undo_12 (by decide) ?_
    refine lv_iconst (v := 1) hx hb dX1_undo_13 (by decide) ?_
    refine va_calli (va_runV (As := [.int 0, .int 1]) (rest := []) ⟨hx, hb, hml, hown, hts⟩ (met_X1_no l D cI cJ bd A T 0 1) (cwV 2 hts gX1_undo_X1_no rfl rfl rfl (by decide +kernel) ⟨Nat.le_of_ble_eq_true rfl, Nat.le_of_ble_eq_true rfl⟩) ⟨fun a U g mk q => ⟨q.1, b1R_calling q.2.1, q.2.2⟩, va_recv hK hP (ci := 1) (q0 := 0) rfl rfl, fun U hU hW => ⟨rfl, b1R_at hP hK hU hW, hD⟩⟩ rfl rfl hl.1 rfl (lv_room (Nat.le_of_ble_eq_true rfl)) dX1_undo_14 ⟨Nat.le_of_ble_eq_true rfl, Nat.le_of_ble_eq_true rfl⟩) hS (fun q _ h => h) (fun q h => h) (fun r14 u14 t H locs ht hvm hw14 hB hz hk hS => ?_)
    obtain ⟨hw14, bz14⟩ := hw14
    obtain ⟨hP, hD⟩ := hB
    rw [ht] at hP
    refine lv_if_eq (tgt := 22) hx hb dX1_undo_17 (by decide) (fun c17 => ?_) (fun c17 => ?_)
    · skip
      exact absurd rfl (no_ok hw14 c17)
    · skip
      refine lv_iconst (v := 0) hx hb dX1_undo_20 (by decide) ?_
      rw [hQ]
      exact W.iret (v := 0) hx hb hr (fun t ht hW => ⟨⟨0, u14, rfl, (hR.trans (by simp only [f_X1_undo, if_pos c5, hw14, if_neg c17])), by rw [ht]; exact hP, hD⟩, hS.F ht⟩) hS.2.2 dX1_undo_21
  · skip
    refine lv_iconst (v := 1) hx hb dX1_undo_8 (by decide) ?_
    refine lv_goto (tgt := 13) hx hb dX1_undo_9 (by decide) ?_
    refine lv_iconst (v := 1) hx hb dX1_undo_13 (by decide) ?_
    refine va_calli (va_runV (As := [.int 1, .int 1]) (rest := []) ⟨hx, hb, hml, hown, hts⟩ (met_X1_no l D cI cJ bd A T 1 1) (cwV 2 hts gX1_undo_X1_no rfl rfl rfl (by decide +kernel) ⟨Nat.le_of_ble_eq_true rfl, Nat.le_of_ble_eq_true rfl⟩) ⟨fun a U g mk q => ⟨q.1, b1R_calling q.2.1, q.2.2⟩, va_recv hK hP (ci := 1) (q0 := 0) rfl rfl, fun U hU hW => ⟨rfl, b1R_at hP hK hU hW, hD⟩⟩ rfl rfl hl.1 rfl (lv_room (Nat.le_of_ble_eq_true rfl)) dX1_undo_14 ⟨Nat.le_of_ble_eq_true rfl, Nat.le_of_ble_eq_true rfl⟩) hS (fun q _ h => h) (fun q h => h) (fun r14 u14 t H locs ht hvm hw14 hB hz hk hS => ?_)
    obtain ⟨hw14, bz14⟩ := hw14
    obtain ⟨hP, hD⟩ := hB
    rw [ht] at hP
    refine lv_if_eq (tgt := 22) hx hb dX1_undo_17 (by decide) (fun c17 => ?_) (fun c17 => ?_)
    · skip
      refine lv_aload_n hx hb dX1_undo_22 rfl (lv_at hl 0 rfl) ?_
      refine lv_dup hx hb dX1_undo_23 rfl ?_
      refine va_get (D := D) (ci := 1) (v := .int (kpT u14)) (C := RX1) (T := TX1) (N := 12) hx hb hts hin hown hK hP 0 rfl rfl 7 (by decide) hf32 (fun _ h9 => h9) rfl dX1_undo_24 ?_
      refine lv_iconst (v := 1) hx hb dX1_undo_27 (by decide) ?_
      refine lv_isub hx hb dX1_undo_28 ?_
      refine va_put (D := D) (ci := 1) (v := .int ((kpT u14) - 1)) (ty := .int) (C := RX1) (T := TX1) (N := 12) hx hb hts hin tyX1 tyX1_ok nmX1 hown hK hP hD hS 0 rfl rfl 7 (by decide) hf32 (fun _ h9 => h9) rfl (by decide +kernel) rfl rfl (Nat.le_of_ble_eq_true rfl) dX1_undo_29 (fun H locs hP hD hS => ?_)
      have hP : va_P D pCl ([(bd 0, .inr (1, [.ref (bd 1), .ref (bd 2), .ref (bd 3), .ref (bd 4), .ref (bd 5), .ref (bd 6), .ref (bd 7), .int ((kpT u14) - 1), .int (psT u14), .long (poT u14), .int (phT u14), .int (thT u14)])), (bd 1, .inl (cI, 8, .inl (sgT u14))), (bd 2, .inl (cJ, 8, .inr (.inl (odT u14)))), (bd 3, .inl (cI, 8, .inl (shT u14))), (bd 4, .inl (cI, 8, .inl (ksT u14))), (bd 5, .inl (cI, 8, .inl (kgT u14))), (bd 6, .inl (cJ, 8, .inr (.inl (koT u14)))), (bd 7, .inl (cI, 8, .inl (khT u14)))]) H := hP
      have hD : va_D A ([(bd 0, .inr (1, [.ref (bd 1), .ref (bd 2), .ref (bd 3), .ref (bd 4), .ref (bd 5), .ref (bd 6), .ref (bd 7), .int ((kpT u14) - 1), .int (psT u14), .long (poT u14), .int (phT u14), .int (thT u14)])), (bd 1, .inl (cI, 8, .inl (sgT u14))), (bd 2, .inl (cJ, 8, .inr (.inl (odT u14)))), (bd 3, .inl (cI, 8, .inl (shT u14))), (bd 4, .inl (cI, 8, .inl (ksT u14))), (bd 5, .inl (cI, 8, .inl (kgT u14))), (bd 6, .inl (cJ, 8, .inr (.inl (koT u14)))), (bd 7, .inl (cI, 8, .inl (khT u14)))]) := hD
      refine lv_aload_n hx hb dX1_undo_32 rfl (lv_at hl 0 rfl) ?_
      refine va_get (D := D) (ci := 1) (v := .ref (bd 4)) (C := RX1) (T := TX1) (N := 12) hx hb hts hin hown hK hP 0 rfl rfl 3 (by decide) hf20 (fun _ h9 => h9) rfl dX1_undo_33 ?_
      refine lv_aload_n hx hb dX1_undo_36 rfl (lv_at hl 0 rfl) ?_
      refine va_get (D := D) (ci := 1) (v := .int ((kpT u14) - 1)) (C := RX1) (T := TX1) (N := 12) hx hb hts hin hown hK hP 0 rfl rfl 7 (by decide) hf32 (fun _ h9 => h9) rfl dX1_undo_37 ?_
      refine va_iald hx hb hK hP 4 0 rfl rfl (kp_dec (no_kp hw14) hkp c5) dX1_undo_40 ?_
      refine lv_istore_n (lv' := [(1, .int ((ksT u14) ((kpT u14) - 1).toNatClampNeg)), (0, .ref (bd 0))]) hx hb dX1_undo_41 rfl hl (by decide) rfl (fun ls hl => ?_)
      refine lv_aload_n hx hb dX1_undo_42 rfl (lv_at hl 1 rfl) ?_
      refine va_get (D := D) (ci := 1) (v := .ref (bd 1)) (C := RX1) (T := TX1) (N := 12) hx hb hts hin hown hK hP 0 rfl rfl 0 (by decide) hf9 (fun _ h9 => h9) rfl dX1_undo_43 ?_
      refine lv_iload_n hx hb dX1_undo_46 rfl (lv_at hl 0 rfl) ?_
      refine lv_aload_n hx hb dX1_undo_47 rfl (lv_at hl 1 rfl) ?_
      refine va_get (D := D) (ci := 1) (v := .ref (bd 5)) (C := RX1) (T := TX1) (N := 12) hx hb hts hin hown hK hP 0 rfl rfl 4 (by decide) hf23 (fun _ h9 => h9) rfl dX1_undo_48 ?_
      refine lv_aload_n hx hb dX1_undo_51 rfl (lv_at hl 1 rfl) ?_
      refine va_get (D := D) (ci := 1) (v := .int ((kpT u14) - 1)) (C := RX1) (T := TX1) (N := 12) hx hb hts hin hown hK hP 0 rfl rfl 7 (by decide) hf32 (fun _ h9 => h9) rfl dX1_undo_52 ?_
      refine va_iald hx hb hK hP 5 0 rfl rfl (kp_dec (no_kp hw14) hkp c5) dX1_undo_55 ?_
      refine va_iast hx hb hK hP hD hS 1 0 rfl rfl (ks_of (no_kp hw14) hks _) dX1_undo_56 (fun H locs hP hD hS => ?_)
      have hP : va_P D pCl ([(bd 0, .inr (1, [.ref (bd 1), .ref (bd 2), .ref (bd 3), .ref (bd 4), .ref (bd 5), .ref (bd 6), .ref (bd 7), .int ((kpT u14) - 1), .int (psT u14), .long (poT u14), .int (phT u14), .int (thT u14)])), (bd 1, .inl (cI, 8, .inl (upd (sgT u14) ((ksT u14) ((kpT u14) - 1).toNatClampNeg).toNatClampNeg ((kgT u14) ((kpT u14) - 1).toNatClampNeg)))), (bd 2, .inl (cJ, 8, .inr (.inl (odT u14)))), (bd 3, .inl (cI, 8, .inl (shT u14))), (bd 4, .inl (cI, 8, .inl (ksT u14))), (bd 5, .inl (cI, 8, .inl (kgT u14))), (bd 6, .inl (cJ, 8, .inr (.inl (koT u14)))), (bd 7, .inl (cI, 8, .inl (khT u14)))]) H := hP
      have hD : va_D A ([(bd 0, .inr (1, [.ref (bd 1), .ref (bd 2), .ref (bd 3), .ref (bd 4), .ref (bd 5), .ref (bd 6), .ref (bd 7), .int ((kpT u14) - 1), .int (psT u14), .long (poT u14), .int (phT u14), .int (thT u14)])), (bd 1, .inl (cI, 8, .inl (upd (sgT u14) ((ksT u14) ((kpT u14) - 1).toNatClampNeg).toNatClampNeg ((kgT u14) ((kpT u14) - 1).toNatClampNeg)))), (bd 2, .inl (cJ, 8, .inr (.inl (odT u14)))), (bd 3, .inl (cI, 8, .inl (shT u14))), (bd 4, .inl (cI, 8, .inl (ksT u14))), (bd 5, .inl (cI, 8, .inl (kgT u14))), (bd 6, .inl (cJ, 8, .inr (.inl (koT u14)))), (bd 7, .inl (cI, 8, .inl (khT u14)))]) := hD
      refine lv_aload_n hx hb dX1_undo_57 rfl (lv_at hl 1 rfl) ?_
      refine va_get (D := D) (ci := 1) (v := .ref (bd 2)) (C := RX1) (T := TX1) (N := 12) hx hb hts hin hown hK hP 0 rfl rfl 1 (by decide) hf13 (fun _ h9 => h9) rfl dX1_undo_58 ?_
      refine lv_iload_n hx hb dX1_undo_61 rfl (lv_at hl 0 rfl) ?_
      refine lv_aload_n hx hb dX1_undo_62 rfl (lv_at hl 1 rfl) ?_
      refine va_get (D := D) (ci := 1) (v := .ref (bd 6)) (C := RX1) (T := TX1) (N := 12) hx hb hts hin hown hK hP 0 rfl rfl 5 (by decide) hf26 (fun _ h9 => h9) rfl dX1_undo_63 ?_
      refine lv_aload_n hx hb dX1_undo_66 rfl (lv_at hl 1 rfl) ?_
      refine va_get (D := D) (ci := 1) (v := .int ((kpT u14) - 1)) (C := RX1) (T := TX1) (N := 12) hx hb hts hin hown hK hP 0 rfl rfl 7 (by decide) hf32 (fun _ h9 => h9) rfl dX1_undo_67 ?_
      refine va_lald hx hb hK hP 6 1 rfl rfl (kp_dec (no_kp hw14) hkp c5) dX1_undo_70 ?_
      refine va_last hx hb hK hP hD hS 2 1 rfl rfl (ks_of (no_kp hw14) hks _) dX1_undo_71 (fun H locs hP hD hS => ?_)
      have hP : va_P D pCl ([(bd 0, .inr (1, [.ref (bd 1), .ref (bd 2), .ref (bd 3), .ref (bd 4), .ref (bd 5), .ref (bd 6), .ref (bd 7), .int ((kpT u14) - 1), .int (psT u14), .long (poT u14), .int (phT u14), .int (thT u14)])), (bd 1, .inl (cI, 8, .inl (upd (sgT u14) ((ksT u14) ((kpT u14) - 1).toNatClampNeg).toNatClampNeg ((kgT u14) ((kpT u14) - 1).toNatClampNeg)))), (bd 2, .inl (cJ, 8, .inr (.inl (vp_updL (odT u14) ((ksT u14) ((kpT u14) - 1).toNatClampNeg).toNatClampNeg ((koT u14) ((kpT u14) - 1).toNatClampNeg))))), (bd 3, .inl (cI, 8, .inl (shT u14))), (bd 4, .inl (cI, 8, .inl (ksT u14))), (bd 5, .inl (cI, 8, .inl (kgT u14))), (bd 6, .inl (cJ, 8, .inr (.inl (koT u14)))), (bd 7, .inl (cI, 8, .inl (khT u14)))]) H := hP
      have hD : va_D A ([(bd 0, .inr (1, [.ref (bd 1), .ref (bd 2), .ref (bd 3), .ref (bd 4), .ref (bd 5), .ref (bd 6), .ref (bd 7), .int ((kpT u14) - 1), .int (psT u14), .long (poT u14), .int (phT u14), .int (thT u14)])), (bd 1, .inl (cI, 8, .inl (upd (sgT u14) ((ksT u14) ((kpT u14) - 1).toNatClampNeg).toNatClampNeg ((kgT u14) ((kpT u14) - 1).toNatClampNeg)))), (bd 2, .inl (cJ, 8, .inr (.inl (vp_updL (odT u14) ((ksT u14) ((kpT u14) - 1).toNatClampNeg).toNatClampNeg ((koT u14) ((kpT u14) - 1).toNatClampNeg))))), (bd 3, .inl (cI, 8, .inl (shT u14))), (bd 4, .inl (cI, 8, .inl (ksT u14))), (bd 5, .inl (cI, 8, .inl (kgT u14))), (bd 6, .inl (cJ, 8, .inr (.inl (koT u14)))), (bd 7, .inl (cI, 8, .inl (khT u14)))]) := hD
      refine lv_aload_n hx hb dX1_undo_72 rfl (lv_at hl 1 rfl) ?_
      refine va_get (D := D) (ci := 1) (v := .ref (bd 3)) (C := RX1) (T := TX1) (N := 12) hx hb hts hin hown hK hP 0 rfl rfl 2 (by decide) hf17 (fun _ h9 => h9) rfl dX1_undo_73 ?_
      refine lv_iload_n hx hb dX1_undo_76 rfl (lv_at hl 0 rfl) ?_
      refine lv_aload_n hx hb dX1_undo_77 rfl (lv_at hl 1 rfl) ?_
      refine va_get (D := D) (ci := 1) (v := .ref (bd 7)) (C := RX1) (T := TX1) (N := 12) hx hb hts hin hown hK hP 0 rfl rfl 6 (by decide) hf29 (fun _ h9 => h9) rfl dX1_undo_78 ?_
      refine lv_aload_n hx hb dX1_undo_81 rfl (lv_at hl 1 rfl) ?_
      refine va_get (D := D) (ci := 1) (v := .int ((kpT u14) - 1)) (C := RX1) (T := TX1) (N := 12) hx hb hts hin hown hK hP 0 rfl rfl 7 (by decide) hf32 (fun _ h9 => h9) rfl dX1_undo_82 ?_
      refine va_iald hx hb hK hP 7 0 rfl rfl (kp_dec (no_kp hw14) hkp c5) dX1_undo_85 ?_
      refine va_iast hx hb hK hP hD hS 3 0 rfl rfl (ks_of (no_kp hw14) hks _) dX1_undo_86 (fun H locs hP hD hS => ?_)
      have hP : va_P D pCl ([(bd 0, .inr (1, [.ref (bd 1), .ref (bd 2), .ref (bd 3), .ref (bd 4), .ref (bd 5), .ref (bd 6), .ref (bd 7), .int ((kpT u14) - 1), .int (psT u14), .long (poT u14), .int (phT u14), .int (thT u14)])), (bd 1, .inl (cI, 8, .inl (upd (sgT u14) ((ksT u14) ((kpT u14) - 1).toNatClampNeg).toNatClampNeg ((kgT u14) ((kpT u14) - 1).toNatClampNeg)))), (bd 2, .inl (cJ, 8, .inr (.inl (vp_updL (odT u14) ((ksT u14) ((kpT u14) - 1).toNatClampNeg).toNatClampNeg ((koT u14) ((kpT u14) - 1).toNatClampNeg))))), (bd 3, .inl (cI, 8, .inl (upd (shT u14) ((ksT u14) ((kpT u14) - 1).toNatClampNeg).toNatClampNeg ((khT u14) ((kpT u14) - 1).toNatClampNeg)))), (bd 4, .inl (cI, 8, .inl (ksT u14))), (bd 5, .inl (cI, 8, .inl (kgT u14))), (bd 6, .inl (cJ, 8, .inr (.inl (koT u14)))), (bd 7, .inl (cI, 8, .inl (khT u14)))]) H := hP
      have hD : va_D A ([(bd 0, .inr (1, [.ref (bd 1), .ref (bd 2), .ref (bd 3), .ref (bd 4), .ref (bd 5), .ref (bd 6), .ref (bd 7), .int ((kpT u14) - 1), .int (psT u14), .long (poT u14), .int (phT u14), .int (thT u14)])), (bd 1, .inl (cI, 8, .inl (upd (sgT u14) ((ksT u14) ((kpT u14) - 1).toNatClampNeg).toNatClampNeg ((kgT u14) ((kpT u14) - 1).toNatClampNeg)))), (bd 2, .inl (cJ, 8, .inr (.inl (vp_updL (odT u14) ((ksT u14) ((kpT u14) - 1).toNatClampNeg).toNatClampNeg ((koT u14) ((kpT u14) - 1).toNatClampNeg))))), (bd 3, .inl (cI, 8, .inl (upd (shT u14) ((ksT u14) ((kpT u14) - 1).toNatClampNeg).toNatClampNeg ((khT u14) ((kpT u14) - 1).toNatClampNeg)))), (bd 4, .inl (cI, 8, .inl (ksT u14))), (bd 5, .inl (cI, 8, .inl (kgT u14))), (bd 6, .inl (cJ, 8, .inr (.inl (koT u14)))), (bd 7, .inl (cI, 8, .inl (khT u14)))]) := hD
      refine lv_iload_n hx hb dX1_undo_87 rfl (lv_at hl 0 rfl) ?_
      rw [hQ]
      exact W.iret (v := ((ksT u14) ((kpT u14) - 1).toNatClampNeg)) hx hb hr (fun t ht hW => ⟨⟨((ksT u14) ((kpT u14) - 1).toNatClampNeg), ((upd (sgT u14) ((ksT u14) ((kpT u14) - 1).toNatClampNeg).toNatClampNeg ((kgT u14) ((kpT u14) - 1).toNatClampNeg)), (vp_updL (odT u14) ((ksT u14) ((kpT u14) - 1).toNatClampNeg).toNatClampNeg ((koT u14) ((kpT u14) - 1).toNatClampNeg)), (upd (shT u14) ((ksT u14) ((kpT u14) - 1).toNatClampNeg).toNatClampNeg ((khT u14) ((kpT u14) - 1).toNatClampNeg)), ksT u14, kgT u14, koT u14, khT u14, ((kpT u14) - 1), psT u14, poT u14, phT u14, thT u14), rfl, (hR.trans (by simp only [f_X1_undo, if_neg c5, hw14, if_pos c17])), by rw [ht]; exact hP, hD⟩, hS.F ht⟩) hS.2.2 dX1_undo_88
    · skip
      refine lv_iconst (v := 0) hx hb dX1_undo_20 (by decide) ?_
      rw [hQ]
      exact W.iret (v := 0) hx hb hr (fun t ht hW => ⟨⟨0, u14, rfl, (hR.trans (by simp only [f_X1_undo, if_neg c5, hw14, if_neg c17])), by rw [ht]; exact hP, hD⟩, hS.F ht⟩) hS.2.2 dX1_undo_21

def f_X1_kept (T : pT) : Int32 × pT := (kpT T, (sgT T, odT T, shT T, ksT T, kgT T, koT T, khT T, kpT T, psT T, poT T, phT T, 0))
set_option maxHeartbeats 4000000 in
set_option maxRecDepth 100000 in
theorem met_X1_kept (l : Launch) (D : va_G) (cI cJ : ClassId) (bd : Nat → Nat) (A : Nat → Prop) (T : pT) : Met l yX1_kept wsX1_kept ({ frames := 0, cells := 0, slots := 0, locals := 0 } : Room) (va_Pc [.ref (bd 0)] (fun U => b1R D cI cJ bd T U ∧ va_D A (mmW cI cJ bd T))) (va_Qi (fun (r : Int32) (u : pT) => f_X1_kept T = (r, u)) (fun (u : pT) t => va_P D pCl (mmW cI cJ bd u) t.heap ∧ va_D A (mmW cI cJ bd u)) A) 0 0 A := by
  refine Met.ofW (cc := cX1_kept) (maxL := 1) (ret := (some .int)) (by decide) rfl ?_
  intro p e s m args below meth c s₁ B hml hv
  obtain ⟨rfl, ⟨hP, hK⟩, hD⟩ := hv
  have hx := B.exec
  have hb := B.bytes
  have hr := B.returns
  have hts := atoms_spec (ws := wsX1_kept) B.pre
  have hown : s.vm.findClass RX1 = some m.cls := findClass_of_methodNamed B.named
  have hlocks := B.notSynchronized
  have hS : va_S A s.heap s.heap [] := va_S.rf
  have hin : ∀ w ∈ wsX10, w ∈ wsX1_kept := by decide +kernel
  have hf32 := hts (.fieldLink RX1 32 "PowermillModel" "kept" "I") (by decide +kernel)
  have hf36 := hts (.fieldLink RX1 36 "PowermillModel" "thrown" "I") (by decide +kernel)
  have hl := lv_entry ([.ref (bd 0)]) (n := 1) (Nat.le_of_ble_eq_true rfl)
  rw [lg_entry_eq]
  generalize (lg_sl ([.ref (bd 0)]) ++ List.replicate (1 - (lg_sl ([.ref (bd 0)])).length) Slot.unset).toArray = ls at hl ⊢
  have hl : lv_has ls 1 [(0, .ref (bd 0))] := hl
  obtain ⟨Q, hQ⟩ : ∃ Q : State → Prop, Q = (MQ below (va_Qi (fun (r : Int32) (u : pT) => f_X1_kept T = (r, u)) (fun (u : pT) t => va_P D pCl (mmW cI cJ bd u) t.heap ∧ va_D A (mmW cI cJ bd u)) A) ([.ref (bd 0)] : List Value).toArray s 0 0 A) := ⟨_, rfl⟩
  rw [← hQ]
  have hR : f_X1_kept T = f_X1_kept T := rfl
  refine lv_aload_n hx hb dX1_kept_0 rfl (lv_at hl 0 rfl) ?_
  refine lv_iconst (v := 0) hx hb dX1_kept_1 (by decide) ?_
  refine va_put (D := D) (ci := 1) (v := .int 0) (ty := .int) (C := RX1) (T := TX1) (N := 12) hx hb hts hin tyX1 tyX1_ok nmX1 hown hK hP hD hS 0 rfl rfl 11 (by decide) hf36 (fun _ h9 => h9) rfl (by decide +kernel) rfl rfl (Nat.le_of_ble_eq_true rfl) dX1_kept_2 (fun H locs hP hD hS => ?_)
  have hP : va_P D pCl ([(bd 0, .inr (1, [.ref (bd 1), .ref (bd 2), .ref (bd 3), .ref (bd 4), .ref (bd 5), .ref (bd 6), .ref (bd 7), .int (kpT T), .int (psT T), .long (poT T), .int (phT T), .int 0])), (bd 1, .inl (cI, 8, .inl (sgT T))), (bd 2, .inl (cJ, 8, .inr (.inl (odT T)))), (bd 3, .inl (cI, 8, .inl (shT T))), (bd 4, .inl (cI, 8, .inl (ksT T))), (bd 5, .inl (cI, 8, .inl (kgT T))), (bd 6, .inl (cJ, 8, .inr (.inl (koT T)))), (bd 7, .inl (cI, 8, .inl (khT T)))]) H := hP
  have hD : va_D A ([(bd 0, .inr (1, [.ref (bd 1), .ref (bd 2), .ref (bd 3), .ref (bd 4), .ref (bd 5), .ref (bd 6), .ref (bd 7), .int (kpT T), .int (psT T), .long (poT T), .int (phT T), .int 0])), (bd 1, .inl (cI, 8, .inl (sgT T))), (bd 2, .inl (cJ, 8, .inr (.inl (odT T)))), (bd 3, .inl (cI, 8, .inl (shT T))), (bd 4, .inl (cI, 8, .inl (ksT T))), (bd 5, .inl (cI, 8, .inl (kgT T))), (bd 6, .inl (cJ, 8, .inr (.inl (koT T)))), (bd 7, .inl (cI, 8, .inl (khT T)))]) := hD
  refine lv_aload_n hx hb dX1_kept_5 rfl (lv_at hl 0 rfl) ?_
  refine va_get (D := D) (ci := 1) (v := .int (kpT T)) (C := RX1) (T := TX1) (N := 12) hx hb hts hin hown hK hP 0 rfl rfl 7 (by decide) hf32 (fun _ h9 => h9) rfl dX1_kept_6 ?_
  rw [hQ]
  exact W.iret (v := kpT T) hx hb hr (fun t ht hW => ⟨⟨kpT T, (sgT T, odT T, shT T, ksT T, kgT T, koT T, khT T, kpT T, psT T, poT T, phT T, 0), rfl, (hR.trans (by simp only [f_X1_kept])), by rw [ht]; exact hP, hD⟩, hS.F ht⟩) hS.2.2 dX1_kept_9

def f_X1_sign (T : pT) (p0 : Int32) : Int32 × pT := (match f_X1_no T (f_X1_isSlot p0) 1 with | (r6, u6) => (if (r6 : Int32) = 0 then (((sgT u6) p0.toNatClampNeg), u6) else (0, u6)))
set_option maxHeartbeats 4000000 in
set_option maxRecDepth 100000 in
theorem met_X1_sign (l : Launch) (D : va_G) (cI cJ : ClassId) (bd : Nat → Nat) (A : Nat → Prop) (T : pT) (p0 : Int32) : Met l yX1_sign wsX1_sign ({ frames := 1, cells := 0, slots := 0, locals := 22 } : Room) (va_Pc [.ref (bd 0), .int p0] (fun U => b1R D cI cJ bd T U ∧ va_D A (mmW cI cJ bd T))) (va_Qi (fun (r : Int32) (u : pT) => f_X1_sign T p0 = (r, u)) (fun (u : pT) t => va_P D pCl (mmW cI cJ bd u) t.heap ∧ va_D A (mmW cI cJ bd u)) A) 0 0 A := by
  refine Met.ofW (cc := cX1_sign) (maxL := 2) (ret := (some .int)) (by decide) rfl ?_
  intro p e s m args below meth c s₁ B hml hv
  obtain ⟨rfl, ⟨hP, hK⟩, hD⟩ := hv
  have hx := B.exec
  have hb := B.bytes
  have hr := B.returns
  have hts := atoms_spec (ws := wsX1_sign) B.pre
  have hown : s.vm.findClass RX1 = some m.cls := findClass_of_methodNamed B.named
  have hlocks := B.notSynchronized
  have hS : va_S A s.heap s.heap [] := va_S.rf
  have hin : ∀ w ∈ wsX10, w ∈ wsX1_sign := by decide +kernel
  have hf9 := hts (.fieldLink RX1 9 "PowermillModel" "sign" "[I") (by decide +kernel)
  have hl := lv_entry ([.ref (bd 0), .int p0]) (n := 2) (Nat.le_of_ble_eq_true rfl)
  rw [lg_entry_eq]
  generalize (lg_sl ([.ref (bd 0), .int p0]) ++ List.replicate (2 - (lg_sl ([.ref (bd 0), .int p0])).length) Slot.unset).toArray = ls at hl ⊢
  have hl : lv_has ls 2 [(0, .ref (bd 0)), (1, .int p0)] := hl
  obtain ⟨Q, hQ⟩ : ∃ Q : State → Prop, Q = (MQ below (va_Qi (fun (r : Int32) (u : pT) => f_X1_sign T p0 = (r, u)) (fun (u : pT) t => va_P D pCl (mmW cI cJ bd u) t.heap ∧ va_D A (mmW cI cJ bd u)) A) ([.ref (bd 0), .int p0] : List Value).toArray s 0 0 A) := ⟨_, rfl⟩
  rw [← hQ]
  have hR : f_X1_sign T p0 = f_X1_sign T p0 := rfl
  refine lv_aload_n hx hb dX1_sign_0 rfl (lv_at hl 0 rfl) ?_
  refine lv_iload_n hx hb dX1_sign_1 rfl (lv_at hl 1 rfl) ?_
  refine va_calli (va_runS (As := [.int p0]) (rest := [.ref (bd 0)]) ⟨hx, hb, hml, hown, hts⟩ (met_X1_isSlot l p0) (va_cwS 1 hts gX1_sign_X1_isSlot rfl rfl rfl (by decide +kernel) ⟨Nat.le_of_ble_eq_true rfl, Nat.le_of_ble_eq_true rfl⟩) ⟨fun a U g mk q => q, fun U hU hW => ⟨rfl, trivial⟩⟩ rfl rfl hl.1 rfl (lv_room (Nat.le_of_ble_eq_true rfl)) dX1_sign_2 ⟨Nat.le_of_ble_eq_true rfl, Nat.le_of_ble_eq_true rfl⟩) hS (fun q _ h => h.elim) (fun q h => h.elim) (fun r2 u2 t H locs ht hvm hw2 hB hz hk hS => ?_)
  obtain ⟨hw2, bz2⟩ := hw2
  subst hw2
  have hP := hP.kept (fun k q hk9 => hk _ (vx_lt hP hk9) (fun h => h))
  refine lv_iconst (v := 1) hx hb dX1_sign_5 (by decide) ?_
  refine va_calli (va_runV (As := [.int (f_X1_isSlot p0), .int 1]) (rest := []) ⟨hx, hb, hml, hown, hts⟩ (met_X1_no l D cI cJ bd A T (f_X1_isSlot p0) 1) (cwV 2 hts gX1_sign_X1_no rfl rfl rfl (by decide +kernel) ⟨Nat.le_of_ble_eq_true rfl, Nat.le_of_ble_eq_true rfl⟩) ⟨fun a U g mk q => ⟨q.1, b1R_calling q.2.1, q.2.2⟩, va_recv hK hP (ci := 1) (q0 := 0) rfl rfl, fun U hU hW => ⟨rfl, b1R_at hP hK hU hW, hD⟩⟩ rfl rfl hl.1 rfl (lv_room (Nat.le_of_ble_eq_true rfl)) dX1_sign_6 ⟨Nat.le_of_ble_eq_true rfl, Nat.le_of_ble_eq_true rfl⟩) hS (fun q _ h => h) (fun q h => h) (fun r6 u6 t H locs ht hvm hw6 hB hz hk hS => ?_)
  obtain ⟨hw6, bz6⟩ := hw6
  obtain ⟨hP, hD⟩ := hB
  rw [ht] at hP
  refine lv_if_eq (tgt := 16) hx hb dX1_sign_9 (by decide) (fun c9 => ?_) (fun c9 => ?_)
  · skip
    have hi9 := isSlot_in (no_ok hw6 c9)
    refine lv_aload_n hx hb dX1_sign_16 rfl (lv_at hl 0 rfl) ?_
    refine va_get (D := D) (ci := 1) (v := .ref (bd 1)) (C := RX1) (T := TX1) (N := 12) hx hb hts hin hown hK hP 0 rfl rfl 0 (by decide) hf9 (fun _ h9 => h9) rfl dX1_sign_17 ?_
    refine lv_iload_n hx hb dX1_sign_20 rfl (lv_at hl 1 rfl) ?_
    refine va_iald hx hb hK hP 1 0 rfl rfl hi9 dX1_sign_21 ?_
    rw [hQ]
    exact W.iret (v := ((sgT u6) p0.toNatClampNeg)) hx hb hr (fun t ht hW => ⟨⟨((sgT u6) p0.toNatClampNeg), u6, rfl, (hR.trans (by simp only [f_X1_sign, hw6, if_pos c9])), by rw [ht]; exact hP, hD⟩, hS.F ht⟩) hS.2.2 dX1_sign_22
  · skip
    refine lv_iconst (v := 0) hx hb dX1_sign_12 (by decide) ?_
    refine lv_goto (tgt := 22) hx hb dX1_sign_13 (by decide) ?_
    rw [hQ]
    exact W.iret (v := 0) hx hb hr (fun t ht hW => ⟨⟨0, u6, rfl, (hR.trans (by simp only [f_X1_sign, hw6, if_neg c9])), by rw [ht]; exact hP, hD⟩, hS.F ht⟩) hS.2.2 dX1_sign_22

def f_X1_odd (T : pT) (p0 : Int32) : Int64 × pT := (match f_X1_no T (f_X1_isSlot p0) 1 with | (r6, u6) => (if (r6 : Int32) = 0 then (((odT u6) p0.toNatClampNeg), u6) else (0, u6)))
set_option maxHeartbeats 4000000 in
set_option maxRecDepth 100000 in
theorem met_X1_odd (l : Launch) (D : va_G) (cI cJ : ClassId) (bd : Nat → Nat) (A : Nat → Prop) (T : pT) (p0 : Int32) : Met l yX1_odd wsX1_odd ({ frames := 1, cells := 0, slots := 0, locals := 22 } : Room) (va_Pc [.ref (bd 0), .int p0] (fun U => b1R D cI cJ bd T U ∧ va_D A (mmW cI cJ bd T))) (va_Ql (fun (r : Int64) (u : pT) => f_X1_odd T p0 = (r, u)) (fun (u : pT) t => va_P D pCl (mmW cI cJ bd u) t.heap ∧ va_D A (mmW cI cJ bd u)) A) 0 0 A := by
  refine Met.ofW (cc := cX1_odd) (maxL := 2) (ret := (some .long)) (by decide) rfl ?_
  intro p e s m args below meth c s₁ B hml hv
  obtain ⟨rfl, ⟨hP, hK⟩, hD⟩ := hv
  have hx := B.exec
  have hb := B.bytes
  have hr := B.returns
  have hts := atoms_spec (ws := wsX1_odd) B.pre
  have hown : s.vm.findClass RX1 = some m.cls := findClass_of_methodNamed B.named
  have hlocks := B.notSynchronized
  have hS : va_S A s.heap s.heap [] := va_S.rf
  have hin : ∀ w ∈ wsX10, w ∈ wsX1_odd := by decide +kernel
  have hf13 := hts (.fieldLink RX1 13 "PowermillModel" "odd" "[J") (by decide +kernel)
  have hl := lv_entry ([.ref (bd 0), .int p0]) (n := 2) (Nat.le_of_ble_eq_true rfl)
  rw [lg_entry_eq]
  generalize (lg_sl ([.ref (bd 0), .int p0]) ++ List.replicate (2 - (lg_sl ([.ref (bd 0), .int p0])).length) Slot.unset).toArray = ls at hl ⊢
  have hl : lv_has ls 2 [(0, .ref (bd 0)), (1, .int p0)] := hl
  obtain ⟨Q, hQ⟩ : ∃ Q : State → Prop, Q = (MQ below (va_Ql (fun (r : Int64) (u : pT) => f_X1_odd T p0 = (r, u)) (fun (u : pT) t => va_P D pCl (mmW cI cJ bd u) t.heap ∧ va_D A (mmW cI cJ bd u)) A) ([.ref (bd 0), .int p0] : List Value).toArray s 0 0 A) := ⟨_, rfl⟩
  rw [← hQ]
  have hR : f_X1_odd T p0 = f_X1_odd T p0 := rfl
  refine lv_aload_n hx hb dX1_odd_0 rfl (lv_at hl 0 rfl) ?_
  refine lv_iload_n hx hb dX1_odd_1 rfl (lv_at hl 1 rfl) ?_
  refine va_calli (va_runS (As := [.int p0]) (rest := [.ref (bd 0)]) ⟨hx, hb, hml, hown, hts⟩ (met_X1_isSlot l p0) (va_cwS 1 hts gX1_odd_X1_isSlot rfl rfl rfl (by decide +kernel) ⟨Nat.le_of_ble_eq_true rfl, Nat.le_of_ble_eq_true rfl⟩) ⟨fun a U g mk q => q, fun U hU hW => ⟨rfl, trivial⟩⟩ rfl rfl hl.1 rfl (lv_room (Nat.le_of_ble_eq_true rfl)) dX1_odd_2 ⟨Nat.le_of_ble_eq_true rfl, Nat.le_of_ble_eq_true rfl⟩) hS (fun q _ h => h.elim) (fun q h => h.elim) (fun r2 u2 t H locs ht hvm hw2 hB hz hk hS => ?_)
  obtain ⟨hw2, bz2⟩ := hw2
  subst hw2
  have hP := hP.kept (fun k q hk9 => hk _ (vx_lt hP hk9) (fun h => h))
  refine lv_iconst (v := 1) hx hb dX1_odd_5 (by decide) ?_
  refine va_calli (va_runV (As := [.int (f_X1_isSlot p0), .int 1]) (rest := []) ⟨hx, hb, hml, hown, hts⟩ (met_X1_no l D cI cJ bd A T (f_X1_isSlot p0) 1) (cwV 2 hts gX1_odd_X1_no rfl rfl rfl (by decide +kernel) ⟨Nat.le_of_ble_eq_true rfl, Nat.le_of_ble_eq_true rfl⟩) ⟨fun a U g mk q => ⟨q.1, b1R_calling q.2.1, q.2.2⟩, va_recv hK hP (ci := 1) (q0 := 0) rfl rfl, fun U hU hW => ⟨rfl, b1R_at hP hK hU hW, hD⟩⟩ rfl rfl hl.1 rfl (lv_room (Nat.le_of_ble_eq_true rfl)) dX1_odd_6 ⟨Nat.le_of_ble_eq_true rfl, Nat.le_of_ble_eq_true rfl⟩) hS (fun q _ h => h) (fun q h => h) (fun r6 u6 t H locs ht hvm hw6 hB hz hk hS => ?_)
  obtain ⟨hw6, bz6⟩ := hw6
  obtain ⟨hP, hD⟩ := hB
  rw [ht] at hP
  refine lv_if_eq (tgt := 16) hx hb dX1_odd_9 (by decide) (fun c9 => ?_) (fun c9 => ?_)
  · skip
    have hi9 := isSlot_in (no_ok hw6 c9)
    refine lv_aload_n hx hb dX1_odd_16 rfl (lv_at hl 0 rfl) ?_
    refine va_get (D := D) (ci := 1) (v := .ref (bd 2)) (C := RX1) (T := TX1) (N := 12) hx hb hts hin hown hK hP 0 rfl rfl 1 (by decide) hf13 (fun _ h9 => h9) rfl dX1_odd_17 ?_
    refine lv_iload_n hx hb dX1_odd_20 rfl (lv_at hl 1 rfl) ?_
    refine va_lald hx hb hK hP 2 1 rfl rfl hi9 dX1_odd_21 ?_
    rw [hQ]
    exact W.lret (v := ((odT u6) p0.toNatClampNeg)) hx hb hr (fun t ht hW => ⟨⟨((odT u6) p0.toNatClampNeg), u6, rfl, (hR.trans (by simp only [f_X1_odd, hw6, if_pos c9])), by rw [ht]; exact hP, hD⟩, hS.F ht⟩) hS.2.2 dX1_odd_22
  · skip
    refine lv_lconst (v := 0) hx hb dX1_odd_12 rfl ?_
    refine lv_goto (tgt := 22) hx hb dX1_odd_13 (by decide) ?_
    rw [hQ]
    exact W.lret (v := 0) hx hb hr (fun t ht hW => ⟨⟨0, u6, rfl, (hR.trans (by simp only [f_X1_odd, hw6, if_neg c9])), by rw [ht]; exact hP, hD⟩, hS.F ht⟩) hS.2.2 dX1_odd_22

def f_X1_shift (T : pT) (p0 : Int32) : Int32 × pT := (match f_X1_no T (f_X1_isSlot p0) 1 with | (r6, u6) => (if (r6 : Int32) = 0 then (((shT u6) p0.toNatClampNeg), u6) else (0, u6)))
set_option maxHeartbeats 4000000 in
set_option maxRecDepth 100000 in
theorem met_X1_shift (l : Launch) (D : va_G) (cI cJ : ClassId) (bd : Nat → Nat) (A : Nat → Prop) (T : pT) (p0 : Int32) : Met l yX1_shift wsX1_shift ({ frames := 1, cells := 0, slots := 0, locals := 22 } : Room) (va_Pc [.ref (bd 0), .int p0] (fun U => b1R D cI cJ bd T U ∧ va_D A (mmW cI cJ bd T))) (va_Qi (fun (r : Int32) (u : pT) => f_X1_shift T p0 = (r, u)) (fun (u : pT) t => va_P D pCl (mmW cI cJ bd u) t.heap ∧ va_D A (mmW cI cJ bd u)) A) 0 0 A := by
  refine Met.ofW (cc := cX1_shift) (maxL := 2) (ret := (some .int)) (by decide) rfl ?_
  intro p e s m args below meth c s₁ B hml hv
  obtain ⟨rfl, ⟨hP, hK⟩, hD⟩ := hv
  have hx := B.exec
  have hb := B.bytes
  have hr := B.returns
  have hts := atoms_spec (ws := wsX1_shift) B.pre
  have hown : s.vm.findClass RX1 = some m.cls := findClass_of_methodNamed B.named
  have hlocks := B.notSynchronized
  have hS : va_S A s.heap s.heap [] := va_S.rf
  have hin : ∀ w ∈ wsX10, w ∈ wsX1_shift := by decide +kernel
  have hf17 := hts (.fieldLink RX1 17 "PowermillModel" "shift" "[I") (by decide +kernel)
  have hl := lv_entry ([.ref (bd 0), .int p0]) (n := 2) (Nat.le_of_ble_eq_true rfl)
  rw [lg_entry_eq]
  generalize (lg_sl ([.ref (bd 0), .int p0]) ++ List.replicate (2 - (lg_sl ([.ref (bd 0), .int p0])).length) Slot.unset).toArray = ls at hl ⊢
  have hl : lv_has ls 2 [(0, .ref (bd 0)), (1, .int p0)] := hl
  obtain ⟨Q, hQ⟩ : ∃ Q : State → Prop, Q = (MQ below (va_Qi (fun (r : Int32) (u : pT) => f_X1_shift T p0 = (r, u)) (fun (u : pT) t => va_P D pCl (mmW cI cJ bd u) t.heap ∧ va_D A (mmW cI cJ bd u)) A) ([.ref (bd 0), .int p0] : List Value).toArray s 0 0 A) := ⟨_, rfl⟩
  rw [← hQ]
  have hR : f_X1_shift T p0 = f_X1_shift T p0 := rfl
  refine lv_aload_n hx hb dX1_shift_0 rfl (lv_at hl 0 rfl) ?_
  refine lv_iload_n hx hb dX1_shift_1 rfl (lv_at hl 1 rfl) ?_
  refine va_calli (va_runS (As := [.int p0]) (rest := [.ref (bd 0)]) ⟨hx, hb, hml, hown, hts⟩ (met_X1_isSlot l p0) (va_cwS 1 hts gX1_shift_X1_isSlot rfl rfl rfl (by decide +kernel) ⟨Nat.le_of_ble_eq_true rfl, Nat.le_of_ble_eq_true rfl⟩) ⟨fun a U g mk q => q, fun U hU hW => ⟨rfl, trivial⟩⟩ rfl rfl hl.1 rfl (lv_room (Nat.le_of_ble_eq_true rfl)) dX1_shift_2 ⟨Nat.le_of_ble_eq_true rfl, Nat.le_of_ble_eq_true rfl⟩) hS (fun q _ h => h.elim) (fun q h => h.elim) (fun r2 u2 t H locs ht hvm hw2 hB hz hk hS => ?_)
  obtain ⟨hw2, bz2⟩ := hw2
  subst hw2
  have hP := hP.kept (fun k q hk9 => hk _ (vx_lt hP hk9) (fun h => h))
  refine lv_iconst (v := 1) hx hb dX1_shift_5 (by decide) ?_
  refine va_calli (va_runV (As := [.int (f_X1_isSlot p0), .int 1]) (rest := []) ⟨hx, hb, hml, hown, hts⟩ (met_X1_no l D cI cJ bd A T (f_X1_isSlot p0) 1) (cwV 2 hts gX1_shift_X1_no rfl rfl rfl (by decide +kernel) ⟨Nat.le_of_ble_eq_true rfl, Nat.le_of_ble_eq_true rfl⟩) ⟨fun a U g mk q => ⟨q.1, b1R_calling q.2.1, q.2.2⟩, va_recv hK hP (ci := 1) (q0 := 0) rfl rfl, fun U hU hW => ⟨rfl, b1R_at hP hK hU hW, hD⟩⟩ rfl rfl hl.1 rfl (lv_room (Nat.le_of_ble_eq_true rfl)) dX1_shift_6 ⟨Nat.le_of_ble_eq_true rfl, Nat.le_of_ble_eq_true rfl⟩) hS (fun q _ h => h) (fun q h => h) (fun r6 u6 t H locs ht hvm hw6 hB hz hk hS => ?_)
  obtain ⟨hw6, bz6⟩ := hw6
  obtain ⟨hP, hD⟩ := hB
  rw [ht] at hP
  refine lv_if_eq (tgt := 16) hx hb dX1_shift_9 (by decide) (fun c9 => ?_) (fun c9 => ?_)
  · skip
    have hi9 := isSlot_in (no_ok hw6 c9)
    refine lv_aload_n hx hb dX1_shift_16 rfl (lv_at hl 0 rfl) ?_
    refine va_get (D := D) (ci := 1) (v := .ref (bd 3)) (C := RX1) (T := TX1) (N := 12) hx hb hts hin hown hK hP 0 rfl rfl 2 (by decide) hf17 (fun _ h9 => h9) rfl dX1_shift_17 ?_
    refine lv_iload_n hx hb dX1_shift_20 rfl (lv_at hl 1 rfl) ?_
    refine va_iald hx hb hK hP 3 0 rfl rfl hi9 dX1_shift_21 ?_
    rw [hQ]
    exact W.iret (v := ((shT u6) p0.toNatClampNeg)) hx hb hr (fun t ht hW => ⟨⟨((shT u6) p0.toNatClampNeg), u6, rfl, (hR.trans (by simp only [f_X1_shift, hw6, if_pos c9])), by rw [ht]; exact hP, hD⟩, hS.F ht⟩) hS.2.2 dX1_shift_22
  · skip
    refine lv_iconst (v := 0) hx hb dX1_shift_12 (by decide) ?_
    refine lv_goto (tgt := 22) hx hb dX1_shift_13 (by decide) ?_
    rw [hQ]
    exact W.iret (v := 0) hx hb hr (fun t ht hW => ⟨⟨0, u6, rfl, (hR.trans (by simp only [f_X1_shift, hw6, if_neg c9])), by rw [ht]; exact hP, hD⟩, hS.F ht⟩) hS.2.2 dX1_shift_22

def f_X1_bits (T : pT) (p0 : Int32) : Int64 × pT := (match f_X1_no T (f_X1_isSlot p0) 1 with | (r6, u6) => (if (r6 : Int32) = 0 then (if (0 : Int32) ≤ ((sgT u6) p0.toNatClampNeg) then ((f_X1_bitsOf ((odT u6) p0.toNatClampNeg) ((shT u6) p0.toNatClampNeg)), u6) else (((f_X1_bitsOf ((odT u6) p0.toNatClampNeg) ((shT u6) p0.toNatClampNeg)) ||| (-9223372036854775808)), u6)) else (0, u6)))
set_option maxHeartbeats 4000000 in
set_option maxRecDepth 100000 in
theorem met_X1_bits (l : Launch) (D : va_G) (cI cJ : ClassId) (bd : Nat → Nat) (A : Nat → Prop) (T : pT) (p0 : Int32) : Met l yX1_bits wsX1_bits ({ frames := 2, cells := 0, slots := 0, locals := 49 } : Room) (va_Pc [.ref (bd 0), .int p0] (fun U => b1R D cI cJ bd T U ∧ va_D A (mmW cI cJ bd T))) (va_Ql (fun (r : Int64) (u : pT) => f_X1_bits T p0 = (r, u)) (fun (u : pT) t => va_P D pCl (mmW cI cJ bd u) t.heap ∧ va_D A (mmW cI cJ bd u)) A) 0 0 A := by
  refine Met.ofW (cc := cX1_bits) (maxL := 4) (ret := (some .long)) (by decide) rfl ?_
  intro p e s m args below meth c s₁ B hml hv
  obtain ⟨rfl, ⟨hP, hK⟩, hD⟩ := hv
  have hx := B.exec
  have hb := B.bytes
  have hr := B.returns
  have hts := atoms_spec (ws := wsX1_bits) B.pre
  have hown : s.vm.findClass RX1 = some m.cls := findClass_of_methodNamed B.named
  have hlocks := B.notSynchronized
  have hS : va_S A s.heap s.heap [] := va_S.rf
  have hin : ∀ w ∈ wsX10, w ∈ wsX1_bits := by decide +kernel
  have hf9 := hts (.fieldLink RX1 9 "PowermillModel" "sign" "[I") (by decide +kernel)
  have hf13 := hts (.fieldLink RX1 13 "PowermillModel" "odd" "[J") (by decide +kernel)
  have hf17 := hts (.fieldLink RX1 17 "PowermillModel" "shift" "[I") (by decide +kernel)
  have hl := lv_entry ([.ref (bd 0), .int p0]) (n := 4) (Nat.le_of_ble_eq_true rfl)
  rw [lg_entry_eq]
  generalize (lg_sl ([.ref (bd 0), .int p0]) ++ List.replicate (4 - (lg_sl ([.ref (bd 0), .int p0])).length) Slot.unset).toArray = ls at hl ⊢
  have hl : lv_has ls 4 [(0, .ref (bd 0)), (1, .int p0)] := hl
  obtain ⟨Q, hQ⟩ : ∃ Q : State → Prop, Q = (MQ below (va_Ql (fun (r : Int64) (u : pT) => f_X1_bits T p0 = (r, u)) (fun (u : pT) t => va_P D pCl (mmW cI cJ bd u) t.heap ∧ va_D A (mmW cI cJ bd u)) A) ([.ref (bd 0), .int p0] : List Value).toArray s 0 0 A) := ⟨_, rfl⟩
  rw [← hQ]
  have hR : f_X1_bits T p0 = f_X1_bits T p0 := rfl
  refine lv_aload_n hx hb dX1_bits_0 rfl (lv_at hl 0 rfl) ?_
  refine lv_iload_n hx hb dX1_bits_1 rfl (lv_at hl 1 rfl) ?_
  refine va_calli (va_runS (As := [.int p0]) (rest := [.ref (bd 0)]) ⟨hx, hb, hml, hown, hts⟩ (met_X1_isSlot l p0) (va_cwS 1 hts gX1_bits_X1_isSlot rfl rfl rfl (by decide +kernel) ⟨Nat.le_of_ble_eq_true rfl, Nat.le_of_ble_eq_true rfl⟩) ⟨fun a U g mk q => q, fun U hU hW => ⟨rfl, trivial⟩⟩ rfl rfl hl.1 rfl (lv_room (Nat.le_of_ble_eq_true rfl)) dX1_bits_2 ⟨Nat.le_of_ble_eq_true rfl, Nat.le_of_ble_eq_true rfl⟩) hS (fun q _ h => h.elim) (fun q h => h.elim) (fun r2 u2 t H locs ht hvm hw2 hB hz hk hS => ?_)
  obtain ⟨hw2, bz2⟩ := hw2
  subst hw2
  have hP := hP.kept (fun k q hk9 => hk _ (vx_lt hP hk9) (fun h => h))
  refine lv_iconst (v := 1) hx hb dX1_bits_5 (by decide) ?_
  refine va_calli (va_runV (As := [.int (f_X1_isSlot p0), .int 1]) (rest := []) ⟨hx, hb, hml, hown, hts⟩ (met_X1_no l D cI cJ bd A T (f_X1_isSlot p0) 1) (cwV 2 hts gX1_bits_X1_no rfl rfl rfl (by decide +kernel) ⟨Nat.le_of_ble_eq_true rfl, Nat.le_of_ble_eq_true rfl⟩) ⟨fun a U g mk q => ⟨q.1, b1R_calling q.2.1, q.2.2⟩, va_recv hK hP (ci := 1) (q0 := 0) rfl rfl, fun U hU hW => ⟨rfl, b1R_at hP hK hU hW, hD⟩⟩ rfl rfl hl.1 rfl (lv_room (Nat.le_of_ble_eq_true rfl)) dX1_bits_6 ⟨Nat.le_of_ble_eq_true rfl, Nat.le_of_ble_eq_true rfl⟩) hS (fun q _ h => h) (fun q h => h) (fun r6 u6 t H locs ht hvm hw6 hB hz hk hS => ?_)
  obtain ⟨hw6, bz6⟩ := hw6
  obtain ⟨hP, hD⟩ := hB
  rw [ht] at hP
  refine lv_if_eq (tgt := 14) hx hb dX1_bits_9 (by decide) (fun c9 => ?_) (fun c9 => ?_)
  · skip
    have hi9 := isSlot_in (no_ok hw6 c9)
    refine lv_aload_n hx hb dX1_bits_14 rfl (lv_at hl 0 rfl) ?_
    refine va_get (D := D) (ci := 1) (v := .ref (bd 2)) (C := RX1) (T := TX1) (N := 12) hx hb hts hin hown hK hP 0 rfl rfl 1 (by decide) hf13 (fun _ h9 => h9) rfl dX1_bits_15 ?_
    refine lv_iload_n hx hb dX1_bits_18 rfl (lv_at hl 1 rfl) ?_
    refine va_lald hx hb hK hP 2 1 rfl rfl hi9 dX1_bits_19 ?_
    refine lv_aload_n hx hb dX1_bits_20 rfl (lv_at hl 0 rfl) ?_
    refine va_get (D := D) (ci := 1) (v := .ref (bd 3)) (C := RX1) (T := TX1) (N := 12) hx hb hts hin hown hK hP 0 rfl rfl 2 (by decide) hf17 (fun _ h9 => h9) rfl dX1_bits_21 ?_
    refine lv_iload_n hx hb dX1_bits_24 rfl (lv_at hl 1 rfl) ?_
    refine va_iald hx hb hK hP 3 0 rfl rfl hi9 dX1_bits_25 ?_
    refine va_calll (va_runS (As := [.long ((odT u6) p0.toNatClampNeg), .int ((shT u6) p0.toNatClampNeg)]) (rest := []) ⟨hx, hb, hml, hown, hts⟩ (met_X1_bitsOf l ((odT u6) p0.toNatClampNeg) ((shT u6) p0.toNatClampNeg)) (va_cwS 2 hts gX1_bits_X1_bitsOf rfl rfl rfl (by decide +kernel) ⟨Nat.le_of_ble_eq_true rfl, Nat.le_of_ble_eq_true rfl⟩) ⟨fun a U g mk q => q, fun U hU hW => ⟨rfl, trivial⟩⟩ rfl rfl hl.1 rfl (lv_room (Nat.le_of_ble_eq_true rfl)) dX1_bits_26 ⟨Nat.le_of_ble_eq_true rfl, Nat.le_of_ble_eq_true rfl⟩) hS (fun q _ h => h.elim) (fun q h => h.elim) (fun r26 u26 t H locs ht hvm hw26 hB hz hk hS => ?_)
    subst hw26
    have hP := hP.kept (fun k q hk9 => hk _ (vx_lt hP hk9) (fun h => h))
    refine lv_lstore_n (lv' := [(2, .long (f_X1_bitsOf ((odT u6) p0.toNatClampNeg) ((shT u6) p0.toNatClampNeg))), (0, .ref (bd 0)), (1, .int p0)]) hx hb dX1_bits_29 rfl hl (by decide) rfl (fun ls hl => ?_)
    refine lv_aload_n hx hb dX1_bits_30 rfl (lv_at hl 1 rfl) ?_
    refine va_get (D := D) (ci := 1) (v := .ref (bd 1)) (C := RX1) (T := TX1) (N := 12) hx hb hts hin hown hK hP 0 rfl rfl 0 (by decide) hf9 (fun _ h9 => h9) rfl dX1_bits_31 ?_
    refine lv_iload_n hx hb dX1_bits_34 rfl (lv_at hl 2 rfl) ?_
    refine va_iald hx hb hK hP 1 0 rfl rfl hi9 dX1_bits_35 ?_
    refine lv_if_ge (tgt := 47) hx hb dX1_bits_36 (by decide) (fun c36 => ?_) (fun c36 => ?_)
    · skip
      refine lv_lload_n hx hb dX1_bits_47 rfl (lv_at hl 0 rfl) ?_
      rw [hQ]
      exact W.lret (v := (f_X1_bitsOf ((odT u6) p0.toNatClampNeg) ((shT u6) p0.toNatClampNeg))) hx hb hr (fun t ht hW => ⟨⟨(f_X1_bitsOf ((odT u6) p0.toNatClampNeg) ((shT u6) p0.toNatClampNeg)), u6, rfl, (hR.trans (by simp only [f_X1_bits, hw6, if_pos c9, if_pos c36])), by rw [ht]; exact hP, hD⟩, hS.F ht⟩) hS.2.2 dX1_bits_48
    · skip
      refine lv_lload_n hx hb dX1_bits_39 rfl (lv_at hl 0 rfl) ?_
      refine lv_ldc2 (v := (-9223372036854775808)) hx hb hown (hts (.constantLong RX1 95 (-9223372036854775808)) (by decide +kernel)) dX1_bits_40 ?_
      refine lv_lor hx hb dX1_bits_43 ?_
      refine lv_goto (tgt := 48) hx hb dX1_bits_44 (by decide) ?_
      rw [hQ]
      exact W.lret (v := ((f_X1_bitsOf ((odT u6) p0.toNatClampNeg) ((shT u6) p0.toNatClampNeg)) ||| (-9223372036854775808))) hx hb hr (fun t ht hW => ⟨⟨((f_X1_bitsOf ((odT u6) p0.toNatClampNeg) ((shT u6) p0.toNatClampNeg)) ||| (-9223372036854775808)), u6, rfl, (hR.trans (by simp only [f_X1_bits, hw6, if_pos c9, if_neg c36])), by rw [ht]; exact hP, hD⟩, hS.F ht⟩) hS.2.2 dX1_bits_48
  · skip
    refine lv_lconst (v := 0) hx hb dX1_bits_12 rfl ?_
    rw [hQ]
    exact W.lret (v := 0) hx hb hr (fun t ht hW => ⟨⟨0, u6, rfl, (hR.trans (by simp only [f_X1_bits, hw6, if_neg c9])), by rw [ht]; exact hP, hD⟩, hS.F ht⟩) hS.2.2 dX1_bits_13

def f_X1_isWhole (T : pT) (p0 : Int32) : Int32 × pT := (match f_X1_no T (f_X1_isSlot p0) 1 with | (r6, u6) => (if (r6 : Int32) = 0 then (if (((shT u6) p0.toNatClampNeg) : Int32) < 0 then (0, u6) else (1, u6)) else (0, u6)))
set_option maxHeartbeats 4000000 in
set_option maxRecDepth 100000 in
theorem met_X1_isWhole (l : Launch) (D : va_G) (cI cJ : ClassId) (bd : Nat → Nat) (A : Nat → Prop) (T : pT) (p0 : Int32) : Met l yX1_isWhole wsX1_isWhole ({ frames := 1, cells := 0, slots := 0, locals := 22 } : Room) (va_Pc [.ref (bd 0), .int p0] (fun U => b1R D cI cJ bd T U ∧ va_D A (mmW cI cJ bd T))) (va_Qi (fun (r : Int32) (u : pT) => f_X1_isWhole T p0 = (r, u) ∧ (r = 0 ∨ r = 1)) (fun (u : pT) t => va_P D pCl (mmW cI cJ bd u) t.heap ∧ va_D A (mmW cI cJ bd u)) A) 0 0 A := by
  refine Met.ofW (cc := cX1_isWhole) (maxL := 2) (ret := (some .boolean)) (by decide) rfl ?_
  intro p e s m args below meth c s₁ B hml hv
  obtain ⟨rfl, ⟨hP, hK⟩, hD⟩ := hv
  have hx := B.exec
  have hb := B.bytes
  have hr := B.returns
  have hts := atoms_spec (ws := wsX1_isWhole) B.pre
  have hown : s.vm.findClass RX1 = some m.cls := findClass_of_methodNamed B.named
  have hlocks := B.notSynchronized
  have hS : va_S A s.heap s.heap [] := va_S.rf
  have hin : ∀ w ∈ wsX10, w ∈ wsX1_isWhole := by decide +kernel
  have hf17 := hts (.fieldLink RX1 17 "PowermillModel" "shift" "[I") (by decide +kernel)
  have hl := lv_entry ([.ref (bd 0), .int p0]) (n := 2) (Nat.le_of_ble_eq_true rfl)
  rw [lg_entry_eq]
  generalize (lg_sl ([.ref (bd 0), .int p0]) ++ List.replicate (2 - (lg_sl ([.ref (bd 0), .int p0])).length) Slot.unset).toArray = ls at hl ⊢
  have hl : lv_has ls 2 [(0, .ref (bd 0)), (1, .int p0)] := hl
  obtain ⟨Q, hQ⟩ : ∃ Q : State → Prop, Q = (MQ below (va_Qi (fun (r : Int32) (u : pT) => f_X1_isWhole T p0 = (r, u) ∧ (r = 0 ∨ r = 1)) (fun (u : pT) t => va_P D pCl (mmW cI cJ bd u) t.heap ∧ va_D A (mmW cI cJ bd u)) A) ([.ref (bd 0), .int p0] : List Value).toArray s 0 0 A) := ⟨_, rfl⟩
  rw [← hQ]
  have hR : f_X1_isWhole T p0 = f_X1_isWhole T p0 := rfl
  refine lv_aload_n hx hb dX1_isWhole_0 rfl (lv_at hl 0 rfl) ?_
  refine lv_iload_n hx hb dX1_isWhole_1 rfl (lv_at hl 1 rfl) ?_
  refine va_calli (va_runS (As := [.int p0]) (rest := [.ref (bd 0)]) ⟨hx, hb, hml, hown, hts⟩ (met_X1_isSlot l p0) (va_cwS 1 hts gX1_isWhole_X1_isSlot rfl rfl rfl (by decide +kernel) ⟨Nat.le_of_ble_eq_true rfl, Nat.le_of_ble_eq_true rfl⟩) ⟨fun a U g mk q => q, fun U hU hW => ⟨rfl, trivial⟩⟩ rfl rfl hl.1 rfl (lv_room (Nat.le_of_ble_eq_true rfl)) dX1_isWhole_2 ⟨Nat.le_of_ble_eq_true rfl, Nat.le_of_ble_eq_true rfl⟩) hS (fun q _ h => h.elim) (fun q h => h.elim) (fun r2 u2 t H locs ht hvm hw2 hB hz hk hS => ?_)
  obtain ⟨hw2, bz2⟩ := hw2
  subst hw2
  have hP := hP.kept (fun k q hk9 => hk _ (vx_lt hP hk9) (fun h => h))
  refine lv_iconst (v := 1) hx hb dX1_isWhole_5 (by decide) ?_
  refine va_calli (va_runV (As := [.int (f_X1_isSlot p0), .int 1]) (rest := []) ⟨hx, hb, hml, hown, hts⟩ (met_X1_no l D cI cJ bd A T (f_X1_isSlot p0) 1) (cwV 2 hts gX1_isWhole_X1_no rfl rfl rfl (by decide +kernel) ⟨Nat.le_of_ble_eq_true rfl, Nat.le_of_ble_eq_true rfl⟩) ⟨fun a U g mk q => ⟨q.1, b1R_calling q.2.1, q.2.2⟩, va_recv hK hP (ci := 1) (q0 := 0) rfl rfl, fun U hU hW => ⟨rfl, b1R_at hP hK hU hW, hD⟩⟩ rfl rfl hl.1 rfl (lv_room (Nat.le_of_ble_eq_true rfl)) dX1_isWhole_6 ⟨Nat.le_of_ble_eq_true rfl, Nat.le_of_ble_eq_true rfl⟩) hS (fun q _ h => h) (fun q h => h) (fun r6 u6 t H locs ht hvm hw6 hB hz hk hS => ?_)
  obtain ⟨hw6, bz6⟩ := hw6
  obtain ⟨hP, hD⟩ := hB
  rw [ht] at hP
  refine lv_if_ne (tgt := 25) hx hb dX1_isWhole_9 (by decide) (fun c9 => ?_) (fun c9 => ?_)
  · skip
    refine lv_iconst (v := 0) hx hb dX1_isWhole_25 (by decide) ?_
    rw [hQ]
    exact W.zret (ty := .boolean) (v := 0) hx hb hr (nbool (Or.inl rfl)) (fun t ht hW => ⟨⟨0, u6, rfl, ⟨(hR.trans (by simp only [f_X1_isWhole, hw6, if_neg c9])), (Or.inl rfl)⟩, by rw [ht]; exact hP, hD⟩, hS.F ht⟩) hS.2.2 dX1_isWhole_26
  · skip
    have hi9 := isSlot_in (no_ok hw6 c9)
    refine lv_aload_n hx hb dX1_isWhole_12 rfl (lv_at hl 0 rfl) ?_
    refine va_get (D := D) (ci := 1) (v := .ref (bd 3)) (C := RX1) (T := TX1) (N := 12) hx hb hts hin hown hK hP 0 rfl rfl 2 (by decide) hf17 (fun _ h9 => h9) rfl dX1_isWhole_13 ?_
    refine lv_iload_n hx hb dX1_isWhole_16 rfl (lv_at hl 1 rfl) ?_
    refine va_iald hx hb hK hP 3 0 rfl rfl hi9 dX1_isWhole_17 ?_
    refine lv_if_lt (tgt := 25) hx hb dX1_isWhole_18 (by decide) (fun c18 => ?_) (fun c18 => ?_)
    · skip
      refine lv_iconst (v := 0) hx hb dX1_isWhole_25 (by decide) ?_
      rw [hQ]
      exact W.zret (ty := .boolean) (v := 0) hx hb hr (nbool (Or.inl rfl)) (fun t ht hW => ⟨⟨0, u6, rfl, ⟨(hR.trans (by simp only [f_X1_isWhole, hw6, if_pos c9, if_pos c18])), (Or.inl rfl)⟩, by rw [ht]; exact hP, hD⟩, hS.F ht⟩) hS.2.2 dX1_isWhole_26
    · skip
      refine lv_iconst (v := 1) hx hb dX1_isWhole_21 (by decide) ?_
      refine lv_goto (tgt := 26) hx hb dX1_isWhole_22 (by decide) ?_
      rw [hQ]
      exact W.zret (ty := .boolean) (v := 1) hx hb hr (nbool (Or.inr rfl)) (fun t ht hW => ⟨⟨1, u6, rfl, ⟨(hR.trans (by simp only [f_X1_isWhole, hw6, if_pos c9, if_neg c18])), (Or.inr rfl)⟩, by rw [ht]; exact hP, hD⟩, hS.F ht⟩) hS.2.2 dX1_isWhole_26

def f_X1_whole (T : pT) (p0 : Int32) : Int64 × pT := (match f_X1_no T (f_X1_isSlot p0) 1 with | (r6, u6) => (if (r6 : Int32) = 0 then (match f_X1_no u6 (f_X1_isNear u6 p0) 2 with | (r19, u19) => (if (r19 : Int32) = 0 then ((((((sgT u19) p0.toNatClampNeg) : Int32).toInt64) * (f_X1_sizeOf u19 p0)), u19) else (0, u19))) else (0, u6)))
set_option maxHeartbeats 4000000 in
set_option maxRecDepth 100000 in
theorem met_X1_whole (l : Launch) (D : va_G) (cI cJ : ClassId) (bd : Nat → Nat) (A : Nat → Prop) (T : pT) (p0 : Int32) : Met l yX1_whole wsX1_whole ({ frames := 2, cells := 0, slots := 0, locals := 45 } : Room) (va_Pc [.ref (bd 0), .int p0] (fun U => b1R D cI cJ bd T U ∧ va_D A (mmW cI cJ bd T))) (va_Ql (fun (r : Int64) (u : pT) => f_X1_whole T p0 = (r, u)) (fun (u : pT) t => va_P D pCl (mmW cI cJ bd u) t.heap ∧ va_D A (mmW cI cJ bd u)) A) 0 0 A := by
  refine Met.ofW (cc := cX1_whole) (maxL := 2) (ret := (some .long)) (by decide) rfl ?_
  intro p e s m args below meth c s₁ B hml hv
  obtain ⟨rfl, ⟨hP, hK⟩, hD⟩ := hv
  have hx := B.exec
  have hb := B.bytes
  have hr := B.returns
  have hts := atoms_spec (ws := wsX1_whole) B.pre
  have hown : s.vm.findClass RX1 = some m.cls := findClass_of_methodNamed B.named
  have hlocks := B.notSynchronized
  have hS : va_S A s.heap s.heap [] := va_S.rf
  have hin : ∀ w ∈ wsX10, w ∈ wsX1_whole := by decide +kernel
  have hf9 := hts (.fieldLink RX1 9 "PowermillModel" "sign" "[I") (by decide +kernel)
  have hl := lv_entry ([.ref (bd 0), .int p0]) (n := 2) (Nat.le_of_ble_eq_true rfl)
  rw [lg_entry_eq]
  generalize (lg_sl ([.ref (bd 0), .int p0]) ++ List.replicate (2 - (lg_sl ([.ref (bd 0), .int p0])).length) Slot.unset).toArray = ls at hl ⊢
  have hl : lv_has ls 2 [(0, .ref (bd 0)), (1, .int p0)] := hl
  obtain ⟨Q, hQ⟩ : ∃ Q : State → Prop, Q = (MQ below (va_Ql (fun (r : Int64) (u : pT) => f_X1_whole T p0 = (r, u)) (fun (u : pT) t => va_P D pCl (mmW cI cJ bd u) t.heap ∧ va_D A (mmW cI cJ bd u)) A) ([.ref (bd 0), .int p0] : List Value).toArray s 0 0 A) := ⟨_, rfl⟩
  rw [← hQ]
  have hR : f_X1_whole T p0 = f_X1_whole T p0 := rfl
  refine lv_aload_n hx hb dX1_whole_0 rfl (lv_at hl 0 rfl) ?_
  refine lv_iload_n hx hb dX1_whole_1 rfl (lv_at hl 1 rfl) ?_
  refine va_calli (va_runS (As := [.int p0]) (rest := [.ref (bd 0)]) ⟨hx, hb, hml, hown, hts⟩ (met_X1_isSlot l p0) (va_cwS 1 hts gX1_whole_X1_isSlot rfl rfl rfl (by decide +kernel) ⟨Nat.le_of_ble_eq_true rfl, Nat.le_of_ble_eq_true rfl⟩) ⟨fun a U g mk q => q, fun U hU hW => ⟨rfl, trivial⟩⟩ rfl rfl hl.1 rfl (lv_room (Nat.le_of_ble_eq_true rfl)) dX1_whole_2 ⟨Nat.le_of_ble_eq_true rfl, Nat.le_of_ble_eq_true rfl⟩) hS (fun q _ h => h.elim) (fun q h => h.elim) (fun r2 u2 t H locs ht hvm hw2 hB hz hk hS => ?_)
  obtain ⟨hw2, bz2⟩ := hw2
  subst hw2
  have hP := hP.kept (fun k q hk9 => hk _ (vx_lt hP hk9) (fun h => h))
  refine lv_iconst (v := 1) hx hb dX1_whole_5 (by decide) ?_
  refine va_calli (va_runV (As := [.int (f_X1_isSlot p0), .int 1]) (rest := []) ⟨hx, hb, hml, hown, hts⟩ (met_X1_no l D cI cJ bd A T (f_X1_isSlot p0) 1) (cwV 2 hts gX1_whole_X1_no rfl rfl rfl (by decide +kernel) ⟨Nat.le_of_ble_eq_true rfl, Nat.le_of_ble_eq_true rfl⟩) ⟨fun a U g mk q => ⟨q.1, b1R_calling q.2.1, q.2.2⟩, va_recv hK hP (ci := 1) (q0 := 0) rfl rfl, fun U hU hW => ⟨rfl, b1R_at hP hK hU hW, hD⟩⟩ rfl rfl hl.1 rfl (lv_room (Nat.le_of_ble_eq_true rfl)) dX1_whole_6 ⟨Nat.le_of_ble_eq_true rfl, Nat.le_of_ble_eq_true rfl⟩) hS (fun q _ h => h) (fun q h => h) (fun r6 u6 t H locs ht hvm hw6 hB hz hk hS => ?_)
  obtain ⟨hw6, bz6⟩ := hw6
  obtain ⟨hP, hD⟩ := hB
  rw [ht] at hP
  refine lv_if_ne (tgt := 25) hx hb dX1_whole_9 (by decide) (fun c9 => ?_) (fun c9 => ?_)
  · skip
    refine lv_lconst (v := 0) hx hb dX1_whole_25 rfl ?_
    refine lv_goto (tgt := 42) hx hb dX1_whole_26 (by decide) ?_
    rw [hQ]
    exact W.lret (v := 0) hx hb hr (fun t ht hW => ⟨⟨0, u6, rfl, (hR.trans (by simp only [f_X1_whole, hw6, if_neg c9])), by rw [ht]; exact hP, hD⟩, hS.F ht⟩) hS.2.2 dX1_whole_42
  · skip
    have hi9 := isSlot_in (no_ok hw6 c9)
    refine lv_aload_n hx hb dX1_whole_12 rfl (lv_at hl 0 rfl) ?_
    refine lv_aload_n hx hb dX1_whole_13 rfl (lv_at hl 0 rfl) ?_
    refine lv_iload_n hx hb dX1_whole_14 rfl (lv_at hl 1 rfl) ?_
    refine va_calli (va_runV (As := [.int p0]) (rest := [.ref (bd 0)]) ⟨hx, hb, hml, hown, hts⟩ (met_X1_isNear l D cI cJ bd u6 p0 (hi9)) (cwV 1 hts gX1_whole_X1_isNear rfl rfl rfl (by decide +kernel) ⟨Nat.le_of_ble_eq_true rfl, Nat.le_of_ble_eq_true rfl⟩) ⟨fun a U g mk q => ⟨q.1, b1R_calling q.2⟩, va_recv hK hP (ci := 1) (q0 := 0) rfl rfl, fun U hU hW => ⟨rfl, b1R_at hP hK hU hW⟩⟩ rfl rfl hl.1 rfl (lv_room (Nat.le_of_ble_eq_true rfl)) dX1_whole_15 ⟨Nat.le_of_ble_eq_true rfl, Nat.le_of_ble_eq_true rfl⟩) hS (fun q _ h => h.elim) (fun q h => h.elim) (fun r15 u15 t H locs ht hvm hw15 hB hz hk hS => ?_)
    obtain ⟨hw15, bz15⟩ := hw15
    subst hw15
    have hP := hP.kept (fun k q hk9 => hk _ (vx_lt hP hk9) (fun h => h))
    refine lv_iconst (v := 2) hx hb dX1_whole_18 (by decide) ?_
    refine va_calli (va_runV (As := [.int (f_X1_isNear u6 p0), .int 2]) (rest := []) ⟨hx, hb, hml, hown, hts⟩ (met_X1_no l D cI cJ bd A u6 (f_X1_isNear u6 p0) 2) (cwV 2 hts gX1_whole_X1_no rfl rfl rfl (by decide +kernel) ⟨Nat.le_of_ble_eq_true rfl, Nat.le_of_ble_eq_true rfl⟩) ⟨fun a U g mk q => ⟨q.1, b1R_calling q.2.1, q.2.2⟩, va_recv hK hP (ci := 1) (q0 := 0) rfl rfl, fun U hU hW => ⟨rfl, b1R_at hP hK hU hW, hD⟩⟩ rfl rfl hl.1 rfl (lv_room (Nat.le_of_ble_eq_true rfl)) dX1_whole_19 ⟨Nat.le_of_ble_eq_true rfl, Nat.le_of_ble_eq_true rfl⟩) hS (fun q _ h => h) (fun q h => h) (fun r19 u19 t H locs ht hvm hw19 hB hz hk hS => ?_)
    obtain ⟨hw19, bz19⟩ := hw19
    obtain ⟨hP, hD⟩ := hB
    rw [ht] at hP
    refine lv_if_eq (tgt := 29) hx hb dX1_whole_22 (by decide) (fun c22 => ?_) (fun c22 => ?_)
    · skip
      refine lv_aload_n hx hb dX1_whole_29 rfl (lv_at hl 0 rfl) ?_
      refine va_get (D := D) (ci := 1) (v := .ref (bd 1)) (C := RX1) (T := TX1) (N := 12) hx hb hts hin hown hK hP 0 rfl rfl 0 (by decide) hf9 (fun _ h9 => h9) rfl dX1_whole_30 ?_
      refine lv_iload_n hx hb dX1_whole_33 rfl (lv_at hl 1 rfl) ?_
      refine va_iald hx hb hK hP 1 0 rfl rfl hi9 dX1_whole_34 ?_
      refine lv_i2l hx hb dX1_whole_35 rfl ?_
      refine lv_aload_n hx hb dX1_whole_36 rfl (lv_at hl 0 rfl) ?_
      refine lv_iload_n hx hb dX1_whole_37 rfl (lv_at hl 1 rfl) ?_
      refine va_calll (va_runV (As := [.int p0]) (rest := [.long ((((sgT u19) p0.toNatClampNeg) : Int32).toInt64)]) ⟨hx, hb, hml, hown, hts⟩ (met_X1_sizeOf l D cI cJ bd u19 p0 (hi9)) (cwV 1 hts gX1_whole_X1_sizeOf rfl rfl rfl (by decide +kernel) ⟨Nat.le_of_ble_eq_true rfl, Nat.le_of_ble_eq_true rfl⟩) ⟨fun a U g mk q => ⟨q.1, b1R_calling q.2⟩, va_recv hK hP (ci := 1) (q0 := 0) rfl rfl, fun U hU hW => ⟨rfl, b1R_at hP hK hU hW⟩⟩ rfl rfl hl.1 rfl (lv_room (Nat.le_of_ble_eq_true rfl)) dX1_whole_38 ⟨Nat.le_of_ble_eq_true rfl, Nat.le_of_ble_eq_true rfl⟩) hS (fun q _ h => h.elim) (fun q h => h.elim) (fun r38 u38 t H locs ht hvm hw38 hB hz hk hS => ?_)
      subst hw38
      have hP := hP.kept (fun k q hk9 => hk _ (vx_lt hP hk9) (fun h => h))
      refine lv_lmul hx hb dX1_whole_41 ?_
      rw [hQ]
      exact W.lret (v := (((((sgT u19) p0.toNatClampNeg) : Int32).toInt64) * (f_X1_sizeOf u19 p0))) hx hb hr (fun t ht hW => ⟨⟨(((((sgT u19) p0.toNatClampNeg) : Int32).toInt64) * (f_X1_sizeOf u19 p0)), u19, rfl, (hR.trans (by simp only [f_X1_whole, hw6, if_pos c9, hw19, if_pos c22])), by rw [ht]; exact hP, hD⟩, hS.F ht⟩) hS.2.2 dX1_whole_42
    · skip
      refine lv_lconst (v := 0) hx hb dX1_whole_25 rfl ?_
      refine lv_goto (tgt := 42) hx hb dX1_whole_26 (by decide) ?_
      rw [hQ]
      exact W.lret (v := 0) hx hb hr (fun t ht hW => ⟨⟨0, u19, rfl, (hR.trans (by simp only [f_X1_whole, hw6, if_pos c9, hw19, if_neg c22])), by rw [ht]; exact hP, hD⟩, hS.F ht⟩) hS.2.2 dX1_whole_42

def f_X1_compare (T : pT) (p0 : Int32) (p1 : Int32) : Int32 × pT := (if ((f_X1_isSlot p0) : Int32) = 0 then (match f_X1_no T 0 1 with | (r21, u21) => (if (r21 : Int32) = 0 then (0, T) else (0, u21))) else (if ((f_X1_isSlot p1) : Int32) = 0 then (match f_X1_no T 0 1 with | (r21, u21) => (if (r21 : Int32) = 0 then (0, T) else (0, u21))) else (match f_X1_no T 1 1 with | (r21, u21) => (if (r21 : Int32) = 0 then ((f_X1_order u21 p0 p1), u21) else (0, u21)))))
set_option maxHeartbeats 4000000 in
set_option maxRecDepth 100000 in
theorem met_X1_compare (l : Launch) (D : va_G) (cI cJ : ClassId) (bd : Nat → Nat) (A : Nat → Prop) (T : pT) (p0 : Int32) (p1 : Int32) : Met l yX1_compare wsX1_compare ({ frames := 3, cells := 0, slots := 0, locals := 74 } : Room) (va_Pc [.ref (bd 0), .int p0, .int p1] (fun U => b1R D cI cJ bd T U ∧ va_D A (mmW cI cJ bd T))) (va_Qi (fun (r : Int32) (u : pT) => f_X1_compare T p0 p1 = (r, u)) (fun (u : pT) t => va_P D pCl (mmW cI cJ bd u) t.heap ∧ va_D A (mmW cI cJ bd u)) A) 0 0 A := by
  refine Met.ofW (cc := cX1_compare) (maxL := 3) (ret := (some .int)) (by decide) rfl ?_
  intro p e s m args below meth c s₁ B hml hv
  obtain ⟨rfl, ⟨hP, hK⟩, hD⟩ := hv
  have hx := B.exec
  have hb := B.bytes
  have hr := B.returns
  have hts := atoms_spec (ws := wsX1_compare) B.pre
  have hown : s.vm.findClass RX1 = some m.cls := findClass_of_methodNamed B.named
  have hlocks := B.notSynchronized
  have hS : va_S A s.heap s.heap [] := va_S.rf
  have hl := lv_entry ([.ref (bd 0), .int p0, .int p1]) (n := 3) (Nat.le_of_ble_eq_true rfl)
  rw [lg_entry_eq]
  generalize (lg_sl ([.ref (bd 0), .int p0, .int p1]) ++ List.replicate (3 - (lg_sl ([.ref (bd 0), .int p0, .int p1])).length) Slot.unset).toArray = ls at hl ⊢
  have hl : lv_has ls 3 [(0, .ref (bd 0)), (1, .int p0), (2, .int p1)] := hl
  obtain ⟨Q, hQ⟩ : ∃ Q : State → Prop, Q = (MQ below (va_Qi (fun (r : Int32) (u : pT) => f_X1_compare T p0 p1 = (r, u)) (fun (u : pT) t => va_P D pCl (mmW cI cJ bd u) t.heap ∧ va_D A (mmW cI cJ bd u)) A) ([.ref (bd 0), .int p0, .int p1] : List Value).toArray s 0 0 A) := ⟨_, rfl⟩
  rw [← hQ]
  have hR : f_X1_compare T p0 p1 = f_X1_compare T p0 p1 := rfl
  refine lv_aload_n hx hb dX1_compare_0 rfl (lv_at hl 0 rfl) ?_
  refine lv_iload_n hx hb dX1_compare_1 rfl (lv_at hl 1 rfl) ?_
  refine va_calli (va_runS (As := [.int p0]) (rest := [.ref (bd 0)]) ⟨hx, hb, hml, hown, hts⟩ (met_X1_isSlot l p0) (va_cwS 1 hts gX1_compare_X1_isSlot rfl rfl rfl (by decide +kernel) ⟨Nat.le_of_ble_eq_true rfl, Nat.le_of_ble_eq_true rfl⟩) ⟨fun a U g mk q => q, fun U hU hW => ⟨rfl, trivial⟩⟩ rfl rfl hl.1 rfl (lv_room (Nat.le_of_ble_eq_true rfl)) dX1_compare_2 ⟨Nat.le_of_ble_eq_true rfl, Nat.le_of_ble_eq_true rfl⟩) hS (fun q _ h => h.elim) (fun q h => h.elim) (fun r2 u2 t H locs ht hvm hw2 hB hz hk hS => ?_)
  obtain ⟨hw2, bz2⟩ := hw2
  subst hw2
  have hP := hP.kept (fun k q hk9 => hk _ (vx_lt hP hk9) (fun h => h))
  refine lv_if_eq (tgt := 19) hx hb dX1_compare_5 (by decide) (fun c5 => ?_) (fun c5 => ?_)
  · skip
    refine lv_iconst (v := 0) hx hb dX1_compare_19 (by decide) ?_
    refine lv_iconst (v := 1) hx hb dX1_compare_20 (by decide) ?_
    refine va_calli (va_runV (As := [.int 0, .int 1]) (rest := []) ⟨hx, hb, hml, hown, hts⟩ (met_X1_no l D cI cJ bd A T 0 1) (cwV 2 hts gX1_compare_X1_no rfl rfl rfl (by decide +kernel) ⟨Nat.le_of_ble_eq_true rfl, Nat.le_of_ble_eq_true rfl⟩) ⟨fun a U g mk q => ⟨q.1, b1R_calling q.2.1, q.2.2⟩, va_recv hK hP (ci := 1) (q0 := 0) rfl rfl, fun U hU hW => ⟨rfl, b1R_at hP hK hU hW, hD⟩⟩ rfl rfl hl.1 rfl (lv_room (Nat.le_of_ble_eq_true rfl)) dX1_compare_21 ⟨Nat.le_of_ble_eq_true rfl, Nat.le_of_ble_eq_true rfl⟩) hS (fun q _ h => h) (fun q h => h) (fun r21 u21 t H locs ht hvm hw21 hB hz hk hS => ?_)
    obtain ⟨hw21, bz21⟩ := hw21
    obtain ⟨hP, hD⟩ := hB
    rw [ht] at hP
    refine lv_if_eq (tgt := 31) hx hb dX1_compare_24 (by decide) (fun c24 => ?_) (fun c24 => ?_)
    · skip
      exact absurd rfl (no_ok hw21 c24)
    · skip
      refine lv_iconst (v := 0) hx hb dX1_compare_27 (by decide) ?_
      refine lv_goto (tgt := 37) hx hb dX1_compare_28 (by decide) ?_
      rw [hQ]
      exact W.iret (v := 0) hx hb hr (fun t ht hW => ⟨⟨0, u21, rfl, (hR.trans (by simp only [f_X1_compare, if_pos c5, hw21, if_neg c24])), by rw [ht]; exact hP, hD⟩, hS.F ht⟩) hS.2.2 dX1_compare_37
  · skip
    have hi5 := isSlot_in c5
    refine lv_iload_n hx hb dX1_compare_8 rfl (lv_at hl 2 rfl) ?_
    refine va_calli (va_runS (As := [.int p1]) (rest := [.ref (bd 0)]) ⟨hx, hb, hml, hown, hts⟩ (met_X1_isSlot l p1) (va_cwS 1 hts gX1_compare_X1_isSlot rfl rfl rfl (by decide +kernel) ⟨Nat.le_of_ble_eq_true rfl, Nat.le_of_ble_eq_true rfl⟩) ⟨fun a U g mk q => q, fun U hU hW => ⟨rfl, trivial⟩⟩ rfl rfl hl.1 rfl (lv_room (Nat.le_of_ble_eq_true rfl)) dX1_compare_9 ⟨Nat.le_of_ble_eq_true rfl, Nat.le_of_ble_eq_true rfl⟩) hS (fun q _ h => h.elim) (fun q h => h.elim) (fun r9 u9 t H locs ht hvm hw9 hB hz hk hS => ?_)
    obtain ⟨hw9, bz9⟩ := hw9
    subst hw9
    have hP := hP.kept (fun k q hk9 => hk _ (vx_lt hP hk9) (fun h => h))
    refine lv_if_eq (tgt := 19) hx hb dX1_compare_12 (by decide) (fun c12 => ?_) (fun c12 => ?_)
    · skip
      refine lv_iconst (v := 0) hx hb dX1_compare_19 (by decide) ?_
      refine lv_iconst (v := 1) hx hb dX1_compare_20 (by decide) ?_
      refine va_calli (va_runV (As := [.int 0, .int 1]) (rest := []) ⟨hx, hb, hml, hown, hts⟩ (met_X1_no l D cI cJ bd A T 0 1) (cwV 2 hts gX1_compare_X1_no rfl rfl rfl (by decide +kernel) ⟨Nat.le_of_ble_eq_true rfl, Nat.le_of_ble_eq_true rfl⟩) ⟨fun a U g mk q => ⟨q.1, b1R_calling q.2.1, q.2.2⟩, va_recv hK hP (ci := 1) (q0 := 0) rfl rfl, fun U hU hW => ⟨rfl, b1R_at hP hK hU hW, hD⟩⟩ rfl rfl hl.1 rfl (lv_room (Nat.le_of_ble_eq_true rfl)) dX1_compare_21 ⟨Nat.le_of_ble_eq_true rfl, Nat.le_of_ble_eq_true rfl⟩) hS (fun q _ h => h) (fun q h => h) (fun r21 u21 t H locs ht hvm hw21 hB hz hk hS => ?_)
      obtain ⟨hw21, bz21⟩ := hw21
      obtain ⟨hP, hD⟩ := hB
      rw [ht] at hP
      refine lv_if_eq (tgt := 31) hx hb dX1_compare_24 (by decide) (fun c24 => ?_) (fun c24 => ?_)
      · skip
        exact absurd rfl (no_ok hw21 c24)
      · skip
        refine lv_iconst (v := 0) hx hb dX1_compare_27 (by decide) ?_
        refine lv_goto (tgt := 37) hx hb dX1_compare_28 (by decide) ?_
        rw [hQ]
        exact W.iret (v := 0) hx hb hr (fun t ht hW => ⟨⟨0, u21, rfl, (hR.trans (by simp only [f_X1_compare, if_neg c5, if_pos c12, hw21, if_neg c24])), by rw [ht]; exact hP, hD⟩, hS.F ht⟩) hS.2.2 dX1_compare_37
    · skip
      have hi12 := isSlot_in c12
      refine lv_iconst (v := 1) hx hb dX1_compare_15 (by decide) ?_
      refine lv_goto (tgt := 20) hx hb dX1_compare_16 (by decide) ?_
      refine lv_iconst (v := 1) hx hb dX1_compare_20 (by decide) ?_
      refine va_calli (va_runV (As := [.int 1, .int 1]) (rest := []) ⟨hx, hb, hml, hown, hts⟩ (met_X1_no l D cI cJ bd A T 1 1) (cwV 2 hts gX1_compare_X1_no rfl rfl rfl (by decide +kernel) ⟨Nat.le_of_ble_eq_true rfl, Nat.le_of_ble_eq_true rfl⟩) ⟨fun a U g mk q => ⟨q.1, b1R_calling q.2.1, q.2.2⟩, va_recv hK hP (ci := 1) (q0 := 0) rfl rfl, fun U hU hW => ⟨rfl, b1R_at hP hK hU hW, hD⟩⟩ rfl rfl hl.1 rfl (lv_room (Nat.le_of_ble_eq_true rfl)) dX1_compare_21 ⟨Nat.le_of_ble_eq_true rfl, Nat.le_of_ble_eq_true rfl⟩) hS (fun q _ h => h) (fun q h => h) (fun r21 u21 t H locs ht hvm hw21 hB hz hk hS => ?_)
      obtain ⟨hw21, bz21⟩ := hw21
      obtain ⟨hP, hD⟩ := hB
      rw [ht] at hP
      refine lv_if_eq (tgt := 31) hx hb dX1_compare_24 (by decide) (fun c24 => ?_) (fun c24 => ?_)
      · skip
        refine lv_aload_n hx hb dX1_compare_31 rfl (lv_at hl 0 rfl) ?_
        refine lv_iload_n hx hb dX1_compare_32 rfl (lv_at hl 1 rfl) ?_
        refine lv_iload_n hx hb dX1_compare_33 rfl (lv_at hl 2 rfl) ?_
        refine va_calli (va_runV (As := [.int p0, .int p1]) (rest := []) ⟨hx, hb, hml, hown, hts⟩ (met_X1_order l D cI cJ bd u21 p0 p1 (hi5) (hi12)) (cwV 2 hts gX1_compare_X1_order rfl rfl rfl (by decide +kernel) ⟨Nat.le_of_ble_eq_true rfl, Nat.le_of_ble_eq_true rfl⟩) ⟨fun a U g mk q => ⟨q.1, b1R_calling q.2⟩, va_recv hK hP (ci := 1) (q0 := 0) rfl rfl, fun U hU hW => ⟨rfl, b1R_at hP hK hU hW⟩⟩ rfl rfl hl.1 rfl (lv_room (Nat.le_of_ble_eq_true rfl)) dX1_compare_34 ⟨Nat.le_of_ble_eq_true rfl, Nat.le_of_ble_eq_true rfl⟩) hS (fun q _ h => h.elim) (fun q h => h.elim) (fun r34 u34 t H locs ht hvm hw34 hB hz hk hS => ?_)
        subst hw34
        have hP := hP.kept (fun k q hk9 => hk _ (vx_lt hP hk9) (fun h => h))
        rw [hQ]
        exact W.iret (v := (f_X1_order u21 p0 p1)) hx hb hr (fun t ht hW => ⟨⟨(f_X1_order u21 p0 p1), u21, rfl, (hR.trans (by simp only [f_X1_compare, if_neg c5, if_neg c12, hw21, if_pos c24])), by rw [ht]; exact hP, hD⟩, hS.F ht⟩) hS.2.2 dX1_compare_37
      · skip
        refine lv_iconst (v := 0) hx hb dX1_compare_27 (by decide) ?_
        refine lv_goto (tgt := 37) hx hb dX1_compare_28 (by decide) ?_
        rw [hQ]
        exact W.iret (v := 0) hx hb hr (fun t ht hW => ⟨⟨0, u21, rfl, (hR.trans (by simp only [f_X1_compare, if_neg c5, if_neg c12, hw21, if_neg c24])), by rw [ht]; exact hP, hD⟩, hS.F ht⟩) hS.2.2 dX1_compare_37

def g_X1_rank_18 (T : pT) (p0 : Int32) (u6 : pT) : Nat → Int32 → Int32 → (Int32 × pT)
  | 0, _, _ => (0, T)
  | n + 1, v18_2, v18_3 => (if (8 : Int32) ≤ v18_3 then (v18_2, u6) else (if (0 : Int32) ≤ (f_X1_order u6 v18_3 p0) then (g_X1_rank_18 T p0 u6 n v18_2 (v18_3 + 1)) else (g_X1_rank_18 T p0 u6 n (v18_2 + 1) (v18_3 + 1))))
def f_X1_rank (T : pT) (p0 : Int32) : Int32 × pT := (match f_X1_no T (f_X1_isSlot p0) 1 with | (r6, u6) => (if (r6 : Int32) = 0 then (g_X1_rank_18 T p0 u6 (((8 : Int32).toInt - (0 : Int32).toInt).toNat + 1) 0 0) else (0, u6)))
set_option maxHeartbeats 4000000 in
set_option maxRecDepth 100000 in
theorem met_X1_rank (l : Launch) (D : va_G) (cI cJ : ClassId) (bd : Nat → Nat) (A : Nat → Prop) (T : pT) (p0 : Int32) : Met l yX1_rank wsX1_rank ({ frames := 3, cells := 0, slots := 0, locals := 74 } : Room) (va_Pc [.ref (bd 0), .int p0] (fun U => b1R D cI cJ bd T U ∧ va_D A (mmW cI cJ bd T))) (va_Qi (fun (r : Int32) (u : pT) => f_X1_rank T p0 = (r, u)) (fun (u : pT) t => va_P D pCl (mmW cI cJ bd u) t.heap ∧ va_D A (mmW cI cJ bd u)) A) 0 0 A := by
  refine Met.ofW (cc := cX1_rank) (maxL := 4) (ret := (some .int)) (by decide) rfl ?_
  intro p e s m args below meth c s₁ B hml hv
  obtain ⟨rfl, ⟨hP, hK⟩, hD⟩ := hv
  have hx := B.exec
  have hb := B.bytes
  have hr := B.returns
  have hts := atoms_spec (ws := wsX1_rank) B.pre
  have hown : s.vm.findClass RX1 = some m.cls := findClass_of_methodNamed B.named
  have hlocks := B.notSynchronized
  have hS : va_S A s.heap s.heap [] := va_S.rf
  have hl := lv_entry ([.ref (bd 0), .int p0]) (n := 4) (Nat.le_of_ble_eq_true rfl)
  rw [lg_entry_eq]
  generalize (lg_sl ([.ref (bd 0), .int p0]) ++ List.replicate (4 - (lg_sl ([.ref (bd 0), .int p0])).length) Slot.unset).toArray = ls at hl ⊢
  have hl : lv_has ls 4 [(0, .ref (bd 0)), (1, .int p0)] := hl
  obtain ⟨Q, hQ⟩ : ∃ Q : State → Prop, Q = (MQ below (va_Qi (fun (r : Int32) (u : pT) => f_X1_rank T p0 = (r, u)) (fun (u : pT) t => va_P D pCl (mmW cI cJ bd u) t.heap ∧ va_D A (mmW cI cJ bd u)) A) ([.ref (bd 0), .int p0] : List Value).toArray s 0 0 A) := ⟨_, rfl⟩
  rw [← hQ]
  have hR : f_X1_rank T p0 = f_X1_rank T p0 := rfl
  refine lv_aload_n hx hb dX1_rank_0 rfl (lv_at hl 0 rfl) ?_
  refine lv_iload_n hx hb dX1_rank_1 rfl (lv_at hl 1 rfl) ?_
  refine va_calli (va_runS (As := [.int p0]) (rest := [.ref (bd 0)]) ⟨hx, hb, hml, hown, hts⟩ (met_X1_isSlot l p0) (va_cwS 1 hts gX1_rank_X1_isSlot rfl rfl rfl (by decide +kernel) ⟨Nat.le_of_ble_eq_true rfl, Nat.le_of_ble_eq_true rfl⟩) ⟨fun a U g mk q => q, fun U hU hW => ⟨rfl, trivial⟩⟩ rfl rfl hl.1 rfl (lv_room (Nat.le_of_ble_eq_true rfl)) dX1_rank_2 ⟨Nat.le_of_ble_eq_true rfl, Nat.le_of_ble_eq_true rfl⟩) hS (fun q _ h => h.elim) (fun q h => h.elim) (fun r2 u2 t H locs ht hvm hw2 hB hz hk hS => ?_)
  obtain ⟨hw2, bz2⟩ := hw2
  subst hw2
  have hP := hP.kept (fun k q hk9 => hk _ (vx_lt hP hk9) (fun h => h))
  refine lv_iconst (v := 1) hx hb dX1_rank_5 (by decide) ?_
  refine va_calli (va_runV (As := [.int (f_X1_isSlot p0), .int 1]) (rest := []) ⟨hx, hb, hml, hown, hts⟩ (met_X1_no l D cI cJ bd A T (f_X1_isSlot p0) 1) (cwV 2 hts gX1_rank_X1_no rfl rfl rfl (by decide +kernel) ⟨Nat.le_of_ble_eq_true rfl, Nat.le_of_ble_eq_true rfl⟩) ⟨fun a U g mk q => ⟨q.1, b1R_calling q.2.1, q.2.2⟩, va_recv hK hP (ci := 1) (q0 := 0) rfl rfl, fun U hU hW => ⟨rfl, b1R_at hP hK hU hW, hD⟩⟩ rfl rfl hl.1 rfl (lv_room (Nat.le_of_ble_eq_true rfl)) dX1_rank_6 ⟨Nat.le_of_ble_eq_true rfl, Nat.le_of_ble_eq_true rfl⟩) hS (fun q _ h => h) (fun q h => h) (fun r6 u6 t H locs ht hvm hw6 hB hz hk hS => ?_)
  obtain ⟨hw6, bz6⟩ := hw6
  obtain ⟨hP, hD⟩ := hB
  rw [ht] at hP
  refine lv_if_eq (tgt := 14) hx hb dX1_rank_9 (by decide) (fun c9 => ?_) (fun c9 => ?_)
  · skip
    have hi9 := isSlot_in (no_ok hw6 c9)
    refine lv_iconst (v := 0) hx hb dX1_rank_14 (by decide) ?_
    refine lv_istore_n (lv' := [(2, .int 0), (0, .ref (bd 0)), (1, .int p0)]) hx hb dX1_rank_15 rfl hl (by decide) rfl (fun ls hl => ?_)
    refine lv_iconst (v := 0) hx hb dX1_rank_16 (by decide) ?_
    refine lv_istore_n (lv' := [(3, .int 0), (2, .int 0), (0, .ref (bd 0)), (1, .int p0)]) hx hb dX1_rank_17 rfl hl (by decide) rfl (fun ls hl => ?_)
    have J18 : ∀ (n18 : Nat) (v18_2 : Int32) (v18_3 : Int32) (ls : Array Slot) (H : Heap) (locs : List Loc), lv_has ls 4 [(0, .ref (bd 0)), (1, .int p0), (2, .int v18_2), (3, .int v18_3)] → va_S A s.heap H locs → va_P D pCl (mmW cI cJ bd u6) H → va_D A (mmW cI cJ bd u6) → f_X1_rank T p0 = g_X1_rank_18 T p0 u6 n18 v18_2 v18_3 → ((8 : Int32).toInt - v18_3.toInt).toNat < n18 → ((0 : Int32) ≤ v18_3) → W p l e (headSpec wsX1_rank ({ frames := 3, cells := 0, slots := 0, locals := 74 } : Room)).room s m ([.ref (bd 0), .int p0] : List Value).toArray below meth c H locs 0 0 Q (F0 m 18 ls []) := by
      intro n18
      induction n18 with
      | zero => intro v18_2 v18_3 ls H locs hl hS hP hD hR hmu18 hi18_0; exact absurd hmu18 (Nat.not_lt_zero _)
      | succ n18 ih18 =>
        intro v18_2 v18_3 ls H locs hl hS hP hD hR hmu18 hi18_0
        refine lv_iload_n hx hb dX1_rank_18 rfl (lv_at hl 3 rfl) ?_
        refine lv_bipush (v := 8) hx hb dX1_rank_19 (by decide) ?_
        refine lv_icmp_ge (tgt := 42) hx hb dX1_rank_21 (by decide) (fun c21 => ?_) (fun c21 => ?_)
        · skip
          refine lv_iload_n hx hb dX1_rank_42 rfl (lv_at hl 2 rfl) ?_
          rw [hQ]
          exact W.iret (v := v18_2) hx hb hr (fun t ht hW => ⟨⟨v18_2, u6, rfl, (hR.trans (by simp only [g_X1_rank_18, if_pos c21])), by rw [ht]; exact hP, hD⟩, hS.F ht⟩) hS.2.2 dX1_rank_43
        · skip
          refine lv_aload_n hx hb dX1_rank_24 rfl (lv_at hl 0 rfl) ?_
          refine lv_iload_n hx hb dX1_rank_25 rfl (lv_at hl 3 rfl) ?_
          refine lv_iload_n hx hb dX1_rank_26 rfl (lv_at hl 1 rfl) ?_
          refine va_calli (va_runV (As := [.int v18_3, .int p0]) (rest := []) ⟨hx, hb, hml, hown, hts⟩ (met_X1_order l D cI cJ bd u6 v18_3 p0 ((in8 hi18_0 c21)) (hi9)) (cwV 2 hts gX1_rank_X1_order rfl rfl rfl (by decide +kernel) ⟨Nat.le_of_ble_eq_true rfl, Nat.le_of_ble_eq_true rfl⟩) ⟨fun a U g mk q => ⟨q.1, b1R_calling q.2⟩, va_recv hK hP (ci := 1) (q0 := 0) rfl rfl, fun U hU hW => ⟨rfl, b1R_at hP hK hU hW⟩⟩ rfl rfl hl.1 rfl (lv_room (Nat.le_of_ble_eq_true rfl)) dX1_rank_27 ⟨Nat.le_of_ble_eq_true rfl, Nat.le_of_ble_eq_true rfl⟩) hS (fun q _ h => h.elim) (fun q h => h.elim) (fun r27 u27 t H locs ht hvm hw27 hB hz hk hS => ?_)
          subst hw27
          have hP := hP.kept (fun k q hk9 => hk _ (vx_lt hP hk9) (fun h => h))
          refine lv_if_ge (tgt := 36) hx hb dX1_rank_30 (by decide) (fun c30 => ?_) (fun c30 => ?_)
          · skip
            refine lv_iinc (v := (v18_3 + 1)) (lv' := [(3, .int (v18_3 + 1)), (0, .ref (bd 0)), (1, .int p0), (2, .int v18_2)]) hx hb dX1_rank_36 hl (k := 3) rfl (by rfl) (by decide) rfl (fun ls hl => ?_)
            refine lv_goto (tgt := 18) hx hb dX1_rank_39 (by decide) ?_
            exact ih18 v18_2 (v18_3 + 1) ls _ _ (lv_sub hl [1, 2, 3, 0] rfl) hS hP hD (hR.trans (by simp only [g_X1_rank_18, if_neg c21, if_pos c30])) (mu_up c21 hmu18) (inc0 hi18_0 c21)
          · skip
            refine lv_iinc (v := (v18_2 + 1)) (lv' := [(2, .int (v18_2 + 1)), (0, .ref (bd 0)), (1, .int p0), (3, .int v18_3)]) hx hb dX1_rank_33 hl (k := 2) rfl (by rfl) (by decide) rfl (fun ls hl => ?_)
            refine lv_iinc (v := (v18_3 + 1)) (lv' := [(3, .int (v18_3 + 1)), (2, .int (v18_2 + 1)), (0, .ref (bd 0)), (1, .int p0)]) hx hb dX1_rank_36 hl (k := 3) rfl (by rfl) (by decide) rfl (fun ls hl => ?_)
            refine lv_goto (tgt := 18) hx hb dX1_rank_39 (by decide) ?_
            exact ih18 (v18_2 + 1) (v18_3 + 1) ls _ _ (lv_sub hl [2, 3, 1, 0] rfl) hS hP hD (hR.trans (by simp only [g_X1_rank_18, if_neg c21, if_neg c30])) (mu_up c21 hmu18) (inc0 hi18_0 c21)
    exact J18 (((8 : Int32).toInt - (0 : Int32).toInt).toNat + 1) 0 0 ls _ _ (lv_sub hl [2, 3, 1, 0] rfl) hS hP hD (hR.trans (by simp only [f_X1_rank, hw6, if_pos c9])) (Nat.lt_succ_self _) (by decide)
  · skip
    refine lv_iconst (v := 0) hx hb dX1_rank_12 (by decide) ?_
    rw [hQ]
    exact W.iret (v := 0) hx hb hr (fun t ht hW => ⟨⟨0, u6, rfl, (hR.trans (by simp only [f_X1_rank, hw6, if_neg c9])), by rw [ht]; exact hP, hD⟩, hS.F ht⟩) hS.2.2 dX1_rank_13

def g_X1_at_27 (rec16 : Int32 → (Int32 × pT)) (T : pT) (p0 : Int32) (u6 : pT) (v16_2 : Int32) : Nat → Int32 → Int32 → (Int32 × pT)
  | 0, _, _ => (0, T)
  | n + 1, v27_3, v27_4 => (if (8 : Int32) ≤ v27_4 then (if (v27_3 : Int32) = p0 then (v16_2, u6) else (rec16 (v16_2 + 1))) else (if ((f_X1_order u6 v27_4 v16_2) : Int32) < 0 then (g_X1_at_27 rec16 T p0 u6 v16_2 n (v27_3 + 1) (v27_4 + 1)) else (if ((f_X1_order u6 v27_4 v16_2) : Int32) = 0 then (if (v16_2 : Int32) ≤ v27_4 then (g_X1_at_27 rec16 T p0 u6 v16_2 n v27_3 (v27_4 + 1)) else (g_X1_at_27 rec16 T p0 u6 v16_2 n (v27_3 + 1) (v27_4 + 1))) else (g_X1_at_27 rec16 T p0 u6 v16_2 n v27_3 (v27_4 + 1)))))
def g_X1_at_16 (T : pT) (p0 : Int32) (u6 : pT) : Nat → Int32 → (Int32 × pT)
  | 0, _ => (0, T)
  | n + 1, v16_2 => (if (8 : Int32) ≤ v16_2 then ((-1), u6) else (g_X1_at_27 (fun a0 => g_X1_at_16 T p0 u6 n a0) T p0 u6 v16_2 (((8 : Int32).toInt - (0 : Int32).toInt).toNat + 1) 0 0))
def f_X1_at (T : pT) (p0 : Int32) : Int32 × pT := (match f_X1_no T (f_X1_isSlot p0) 1 with | (r6, u6) => (if (r6 : Int32) = 0 then (g_X1_at_16 T p0 u6 (((8 : Int32).toInt - (0 : Int32).toInt).toNat + 1) 0) else (0, u6)))
set_option maxHeartbeats 4000000 in
set_option maxRecDepth 100000 in
theorem met_X1_at (l : Launch) (D : va_G) (cI cJ : ClassId) (bd : Nat → Nat) (A : Nat → Prop) (T : pT) (p0 : Int32) : Met l yX1_at wsX1_at ({ frames := 3, cells := 0, slots := 0, locals := 74 } : Room) (va_Pc [.ref (bd 0), .int p0] (fun U => b1R D cI cJ bd T U ∧ va_D A (mmW cI cJ bd T))) (va_Qi (fun (r : Int32) (u : pT) => f_X1_at T p0 = (r, u)) (fun (u : pT) t => va_P D pCl (mmW cI cJ bd u) t.heap ∧ va_D A (mmW cI cJ bd u)) A) 0 0 A := by
  refine Met.ofW (cc := cX1_at) (maxL := 6) (ret := (some .int)) (by decide) rfl ?_
  intro p e s m args below meth c s₁ B hml hv
  obtain ⟨rfl, ⟨hP, hK⟩, hD⟩ := hv
  have hx := B.exec
  have hb := B.bytes
  have hr := B.returns
  have hts := atoms_spec (ws := wsX1_at) B.pre
  have hown : s.vm.findClass RX1 = some m.cls := findClass_of_methodNamed B.named
  have hlocks := B.notSynchronized
  have hS : va_S A s.heap s.heap [] := va_S.rf
  have hl := lv_entry ([.ref (bd 0), .int p0]) (n := 6) (Nat.le_of_ble_eq_true rfl)
  rw [lg_entry_eq]
  generalize (lg_sl ([.ref (bd 0), .int p0]) ++ List.replicate (6 - (lg_sl ([.ref (bd 0), .int p0])).length) Slot.unset).toArray = ls at hl ⊢
  have hl : lv_has ls 6 [(0, .ref (bd 0)), (1, .int p0)] := hl
  obtain ⟨Q, hQ⟩ : ∃ Q : State → Prop, Q = (MQ below (va_Qi (fun (r : Int32) (u : pT) => f_X1_at T p0 = (r, u)) (fun (u : pT) t => va_P D pCl (mmW cI cJ bd u) t.heap ∧ va_D A (mmW cI cJ bd u)) A) ([.ref (bd 0), .int p0] : List Value).toArray s 0 0 A) := ⟨_, rfl⟩
  rw [← hQ]
  have hR : f_X1_at T p0 = f_X1_at T p0 := rfl
  refine lv_aload_n hx hb dX1_at_0 rfl (lv_at hl 0 rfl) ?_
  refine lv_iload_n hx hb dX1_at_1 rfl (lv_at hl 1 rfl) ?_
  refine va_calli (va_runS (As := [.int p0]) (rest := [.ref (bd 0)]) ⟨hx, hb, hml, hown, hts⟩ (met_X1_isSlot l p0) (va_cwS 1 hts gX1_at_X1_isSlot rfl rfl rfl (by decide +kernel) ⟨Nat.le_of_ble_eq_true rfl, Nat.le_of_ble_eq_true rfl⟩) ⟨fun a U g mk q => q, fun U hU hW => ⟨rfl, trivial⟩⟩ rfl rfl hl.1 rfl (lv_room (Nat.le_of_ble_eq_true rfl)) dX1_at_2 ⟨Nat.le_of_ble_eq_true rfl, Nat.le_of_ble_eq_true rfl⟩) hS (fun q _ h => h.elim) (fun q h => h.elim) (fun r2 u2 t H locs ht hvm hw2 hB hz hk hS => ?_)
  obtain ⟨hw2, bz2⟩ := hw2
  subst hw2
  have hP := hP.kept (fun k q hk9 => hk _ (vx_lt hP hk9) (fun h => h))
  refine lv_iconst (v := 1) hx hb dX1_at_5 (by decide) ?_
  refine va_calli (va_runV (As := [.int (f_X1_isSlot p0), .int 1]) (rest := []) ⟨hx, hb, hml, hown, hts⟩ (met_X1_no l D cI cJ bd A T (f_X1_isSlot p0) 1) (cwV 2 hts gX1_at_X1_no rfl rfl rfl (by decide +kernel) ⟨Nat.le_of_ble_eq_true rfl, Nat.le_of_ble_eq_true rfl⟩) ⟨fun a U g mk q => ⟨q.1, b1R_calling q.2.1, q.2.2⟩, va_recv hK hP (ci := 1) (q0 := 0) rfl rfl, fun U hU hW => ⟨rfl, b1R_at hP hK hU hW, hD⟩⟩ rfl rfl hl.1 rfl (lv_room (Nat.le_of_ble_eq_true rfl)) dX1_at_6 ⟨Nat.le_of_ble_eq_true rfl, Nat.le_of_ble_eq_true rfl⟩) hS (fun q _ h => h) (fun q h => h) (fun r6 u6 t H locs ht hvm hw6 hB hz hk hS => ?_)
  obtain ⟨hw6, bz6⟩ := hw6
  obtain ⟨hP, hD⟩ := hB
  rw [ht] at hP
  refine lv_if_eq (tgt := 14) hx hb dX1_at_9 (by decide) (fun c9 => ?_) (fun c9 => ?_)
  · skip
    have hi9 := isSlot_in (no_ok hw6 c9)
    refine lv_iconst (v := 0) hx hb dX1_at_14 (by decide) ?_
    refine lv_istore_n (lv' := [(2, .int 0), (0, .ref (bd 0)), (1, .int p0)]) hx hb dX1_at_15 rfl hl (by decide) rfl (fun ls hl => ?_)
    have J16 : ∀ (n16 : Nat) (v16_2 : Int32) (ls : Array Slot) (H : Heap) (locs : List Loc), lv_has ls 6 [(0, .ref (bd 0)), (1, .int p0), (2, .int v16_2)] → va_S A s.heap H locs → va_P D pCl (mmW cI cJ bd u6) H → va_D A (mmW cI cJ bd u6) → f_X1_at T p0 = g_X1_at_16 T p0 u6 n16 v16_2 → ((8 : Int32).toInt - v16_2.toInt).toNat < n16 → ((0 : Int32) ≤ v16_2) → W p l e (headSpec wsX1_at ({ frames := 3, cells := 0, slots := 0, locals := 74 } : Room)).room s m ([.ref (bd 0), .int p0] : List Value).toArray below meth c H locs 0 0 Q (F0 m 16 ls []) := by
      intro n16
      induction n16 with
      | zero => intro v16_2 ls H locs hl hS hP hD hR hmu16 hi16_0; exact absurd hmu16 (Nat.not_lt_zero _)
      | succ n16 ih16 =>
        intro v16_2 ls H locs hl hS hP hD hR hmu16 hi16_0
        refine lv_iload_n hx hb dX1_at_16 rfl (lv_at hl 2 rfl) ?_
        refine lv_bipush (v := 8) hx hb dX1_at_17 (by decide) ?_
        refine lv_icmp_ge (tgt := 81) hx hb dX1_at_19 (by decide) (fun c19 => ?_) (fun c19 => ?_)
        · skip
          refine lv_iconst (v := (-1)) hx hb dX1_at_81 (by decide) ?_
          rw [hQ]
          exact W.iret (v := (-1)) hx hb hr (fun t ht hW => ⟨⟨(-1), u6, rfl, (hR.trans (by simp only [g_X1_at_16, if_pos c19])), by rw [ht]; exact hP, hD⟩, hS.F ht⟩) hS.2.2 dX1_at_82
        · skip
          refine lv_iconst (v := 0) hx hb dX1_at_22 (by decide) ?_
          refine lv_istore_n (lv' := [(3, .int 0), (0, .ref (bd 0)), (1, .int p0), (2, .int v16_2)]) hx hb dX1_at_23 rfl hl (by decide) rfl (fun ls hl => ?_)
          refine lv_iconst (v := 0) hx hb dX1_at_24 (by decide) ?_
          refine lv_istore (lv' := [(4, .int 0), (3, .int 0), (0, .ref (bd 0)), (1, .int p0), (2, .int v16_2)]) hx hb dX1_at_25 hl (by decide) rfl (fun ls hl => ?_)
          have J27 : ∀ (n27 : Nat) (v27_3 : Int32) (v27_4 : Int32) (ls : Array Slot) (H : Heap) (locs : List Loc), lv_has ls 6 [(0, .ref (bd 0)), (1, .int p0), (2, .int v16_2), (3, .int v27_3), (4, .int v27_4)] → va_S A s.heap H locs → va_P D pCl (mmW cI cJ bd u6) H → va_D A (mmW cI cJ bd u6) → f_X1_at T p0 = g_X1_at_27 (fun a0 => g_X1_at_16 T p0 u6 n16 a0) T p0 u6 v16_2 n27 v27_3 v27_4 → ((8 : Int32).toInt - v27_4.toInt).toNat < n27 → ((0 : Int32) ≤ v27_4) → W p l e (headSpec wsX1_at ({ frames := 3, cells := 0, slots := 0, locals := 74 } : Room)).room s m ([.ref (bd 0), .int p0] : List Value).toArray below meth c H locs 0 0 Q (F0 m 27 ls []) := by
            intro n27
            induction n27 with
            | zero => intro v27_3 v27_4 ls H locs hl hS hP hD hR hmu27 hi27_0; exact absurd hmu27 (Nat.not_lt_zero _)
            | succ n27 ih27 =>
              intro v27_3 v27_4 ls H locs hl hS hP hD hR hmu27 hi27_0
              refine lv_iload hx hb dX1_at_27 (lv_at hl 4 rfl) ?_
              refine lv_bipush (v := 8) hx hb dX1_at_29 (by decide) ?_
              refine lv_icmp_ge (tgt := 68) hx hb dX1_at_31 (by decide) (fun c31 => ?_) (fun c31 => ?_)
              · skip
                refine lv_iload_n hx hb dX1_at_68 rfl (lv_at hl 3 rfl) ?_
                refine lv_iload_n hx hb dX1_at_69 rfl (lv_at hl 1 rfl) ?_
                refine lv_icmp_ne (tgt := 75) hx hb dX1_at_70 (by decide) (fun c70 => ?_) (fun c70 => ?_)
                · skip
                  refine lv_iinc (v := (v16_2 + 1)) (lv' := [(2, .int (v16_2 + 1)), (0, .ref (bd 0)), (1, .int p0), (3, .int v27_3), (4, .int v27_4)]) hx hb dX1_at_75 hl (k := 2) rfl (by rfl) (by decide) rfl (fun ls hl => ?_)
                  refine lv_goto (tgt := 16) hx hb dX1_at_78 (by decide) ?_
                  exact ih16 (v16_2 + 1) ls _ _ (lv_sub hl [1, 2, 0] rfl) hS hP hD (hR.trans (by simp only [g_X1_at_27, if_pos c31, if_neg c70])) (mu_up c19 hmu16) (inc0 hi16_0 c19)
                · skip
                  refine lv_iload_n hx hb dX1_at_73 rfl (lv_at hl 2 rfl) ?_
                  rw [hQ]
                  exact W.iret (v := v16_2) hx hb hr (fun t ht hW => ⟨⟨v16_2, u6, rfl, (hR.trans (by simp only [g_X1_at_27, if_pos c31, if_pos c70])), by rw [ht]; exact hP, hD⟩, hS.F ht⟩) hS.2.2 dX1_at_74
              · skip
                refine lv_aload_n hx hb dX1_at_34 rfl (lv_at hl 0 rfl) ?_
                refine lv_iload hx hb dX1_at_35 (lv_at hl 4 rfl) ?_
                refine lv_iload_n hx hb dX1_at_37 rfl (lv_at hl 2 rfl) ?_
                refine va_calli (va_runV (As := [.int v27_4, .int v16_2]) (rest := []) ⟨hx, hb, hml, hown, hts⟩ (met_X1_order l D cI cJ bd u6 v27_4 v16_2 ((in8 hi27_0 c31)) ((in8 hi16_0 c19))) (cwV 2 hts gX1_at_X1_order rfl rfl rfl (by decide +kernel) ⟨Nat.le_of_ble_eq_true rfl, Nat.le_of_ble_eq_true rfl⟩) ⟨fun a U g mk q => ⟨q.1, b1R_calling q.2⟩, va_recv hK hP (ci := 1) (q0 := 0) rfl rfl, fun U hU hW => ⟨rfl, b1R_at hP hK hU hW⟩⟩ rfl rfl hl.1 rfl (lv_room (Nat.le_of_ble_eq_true rfl)) dX1_at_38 ⟨Nat.le_of_ble_eq_true rfl, Nat.le_of_ble_eq_true rfl⟩) hS (fun q _ h => h.elim) (fun q h => h.elim) (fun r38 u38 t H locs ht hvm hw38 hB hz hk hS => ?_)
                subst hw38
                have hP := hP.kept (fun k q hk9 => hk _ (vx_lt hP hk9) (fun h => h))
                refine lv_istore (lv' := [(5, .int (f_X1_order u6 v27_4 v16_2)), (0, .ref (bd 0)), (1, .int p0), (2, .int v16_2), (3, .int v27_3), (4, .int v27_4)]) hx hb dX1_at_41 hl (by decide) rfl (fun ls hl => ?_)
                refine lv_iload hx hb dX1_at_43 (lv_at hl 0 rfl) ?_
                refine lv_if_lt (tgt := 59) hx hb dX1_at_45 (by decide) (fun c45 => ?_) (fun c45 => ?_)
                · skip
                  refine lv_iinc (v := (v27_3 + 1)) (lv' := [(3, .int (v27_3 + 1)), (5, .int (f_X1_order u6 v27_4 v16_2)), (0, .ref (bd 0)), (1, .int p0), (2, .int v16_2), (4, .int v27_4)]) hx hb dX1_at_59 hl (k := 4) rfl (by rfl) (by decide) rfl (fun ls hl => ?_)
                  refine lv_iinc (v := (v27_4 + 1)) (lv' := [(4, .int (v27_4 + 1)), (3, .int (v27_3 + 1)), (5, .int (f_X1_order u6 v27_4 v16_2)), (0, .ref (bd 0)), (1, .int p0), (2, .int v16_2)]) hx hb dX1_at_62 hl (k := 5) rfl (by rfl) (by decide) rfl (fun ls hl => ?_)
                  refine lv_goto (tgt := 27) hx hb dX1_at_65 (by decide) ?_
                  exact ih27 (v27_3 + 1) (v27_4 + 1) ls _ _ (lv_sub hl [3, 4, 5, 1, 0] rfl) hS hP hD (hR.trans (by simp only [g_X1_at_27, if_neg c31, if_pos c45])) (mu_up c31 hmu27) (inc0 hi27_0 c31)
                · skip
                  refine lv_iload hx hb dX1_at_48 (lv_at hl 0 rfl) ?_
                  refine lv_if_ne (tgt := 62) hx hb dX1_at_50 (by decide) (fun c50 => ?_) (fun c50 => ?_)
                  · skip
                    refine lv_iinc (v := (v27_4 + 1)) (lv' := [(4, .int (v27_4 + 1)), (5, .int (f_X1_order u6 v27_4 v16_2)), (0, .ref (bd 0)), (1, .int p0), (2, .int v16_2), (3, .int v27_3)]) hx hb dX1_at_62 hl (k := 5) rfl (by rfl) (by decide) rfl (fun ls hl => ?_)
                    refine lv_goto (tgt := 27) hx hb dX1_at_65 (by decide) ?_
                    exact ih27 v27_3 (v27_4 + 1) ls _ _ (lv_sub hl [2, 3, 4, 5, 0] rfl) hS hP hD (hR.trans (by simp only [g_X1_at_27, if_neg c31, if_neg c45, if_neg c50])) (mu_up c31 hmu27) (inc0 hi27_0 c31)
                  · skip
                    refine lv_iload hx hb dX1_at_53 (lv_at hl 5 rfl) ?_
                    refine lv_iload_n hx hb dX1_at_55 rfl (lv_at hl 3 rfl) ?_
                    refine lv_icmp_ge (tgt := 62) hx hb dX1_at_56 (by decide) (fun c56 => ?_) (fun c56 => ?_)
                    · skip
                      refine lv_iinc (v := (v27_4 + 1)) (lv' := [(4, .int (v27_4 + 1)), (5, .int (f_X1_order u6 v27_4 v16_2)), (0, .ref (bd 0)), (1, .int p0), (2, .int v16_2), (3, .int v27_3)]) hx hb dX1_at_62 hl (k := 5) rfl (by rfl) (by decide) rfl (fun ls hl => ?_)
                      refine lv_goto (tgt := 27) hx hb dX1_at_65 (by decide) ?_
                      exact ih27 v27_3 (v27_4 + 1) ls _ _ (lv_sub hl [2, 3, 4, 5, 0] rfl) hS hP hD (hR.trans (by simp only [g_X1_at_27, if_neg c31, if_neg c45, if_pos c50, if_pos c56])) (mu_up c31 hmu27) (inc0 hi27_0 c31)
                    · skip
                      refine lv_iinc (v := (v27_3 + 1)) (lv' := [(3, .int (v27_3 + 1)), (5, .int (f_X1_order u6 v27_4 v16_2)), (0, .ref (bd 0)), (1, .int p0), (2, .int v16_2), (4, .int v27_4)]) hx hb dX1_at_59 hl (k := 4) rfl (by rfl) (by decide) rfl (fun ls hl => ?_)
                      refine lv_iinc (v := (v27_4 + 1)) (lv' := [(4, .int (v27_4 + 1)), (3, .int (v27_3 + 1)), (5, .int (f_X1_order u6 v27_4 v16_2)), (0, .ref (bd 0)), (1, .int p0), (2, .int v16_2)]) hx hb dX1_at_62 hl (k := 5) rfl (by rfl) (by decide) rfl (fun ls hl => ?_)
                      refine lv_goto (tgt := 27) hx hb dX1_at_65 (by decide) ?_
                      exact ih27 (v27_3 + 1) (v27_4 + 1) ls _ _ (lv_sub hl [3, 4, 5, 1, 0] rfl) hS hP hD (hR.trans (by simp only [g_X1_at_27, if_neg c31, if_neg c45, if_pos c50, if_neg c56])) (mu_up c31 hmu27) (inc0 hi27_0 c31)
          exact J27 (((8 : Int32).toInt - (0 : Int32).toInt).toNat + 1) 0 0 ls _ _ (lv_sub hl [2, 3, 4, 1, 0] rfl) hS hP hD (hR.trans (by simp only [g_X1_at_16, if_neg c19])) (Nat.lt_succ_self _) (by decide)
    exact J16 (((8 : Int32).toInt - (0 : Int32).toInt).toNat + 1) 0 ls _ _ (lv_sub hl [1, 2, 0] rfl) hS hP hD (hR.trans (by simp only [f_X1_at, hw6, if_pos c9])) (Nat.lt_succ_self _) (by decide)
  · skip
    refine lv_iconst (v := 0) hx hb dX1_at_12 (by decide) ?_
    rw [hQ]
    exact W.iret (v := 0) hx hb hr (fun t ht hW => ⟨⟨0, u6, rfl, (hR.trans (by simp only [f_X1_at, hw6, if_neg c9])), by rw [ht]; exact hP, hD⟩, hS.F ht⟩) hS.2.2 dX1_at_13

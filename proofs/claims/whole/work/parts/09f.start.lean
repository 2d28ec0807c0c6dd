theorem D_left {A : Nat → Prop} {w1 w2 : va_W} (h : va_D A (w1 ++ w2)) : va_D (fun q => A q ∧ ∀ (k : Nat) (r : Nat × va_E), w2[k]? = some r → q ≠ r.1) w1 := by
  have g1 : ∀ (k : Nat) (q : Nat × va_E), w1[k]? = some q → (w1 ++ w2)[k]? = some q := fun k q hq => by
    rw [List.getElem?_append_left (List.getElem?_eq_some_iff.mp hq).1]; exact hq
  have g2 : ∀ (k : Nat) (q : Nat × va_E), w2[k]? = some q → (w1 ++ w2)[w1.length + k]? = some q := fun k q hq => by
    rw [List.getElem?_append_right (by omega), show w1.length + k - w1.length = k by omega]; exact hq
  refine ⟨fun i j p q hp hq e => h.1 i j p q (g1 i p hp) (g1 j q hq) e, fun k q hq => ⟨h.2 k q (g1 k q hq), fun j r hr e => ?_⟩⟩
  have h9 := h.1 k (w1.length + j) q r (g1 k q hq) (g2 j r hr) e
  have h8 := (List.getElem?_eq_some_iff.mp hq).1
  omega
theorem D_right {A : Nat → Prop} {w1 w2 : va_W} (h : va_D A (w1 ++ w2)) : va_D (fun q => A q ∧ ∀ (k : Nat) (r : Nat × va_E), w1[k]? = some r → q ≠ r.1) w2 := by
  have g1 : ∀ (k : Nat) (q : Nat × va_E), w1[k]? = some q → (w1 ++ w2)[k]? = some q := fun k q hq => by
    rw [List.getElem?_append_left (List.getElem?_eq_some_iff.mp hq).1]; exact hq
  have g2 : ∀ (k : Nat) (q : Nat × va_E), w2[k]? = some q → (w1 ++ w2)[w1.length + k]? = some q := fun k q hq => by
    rw [List.getElem?_append_right (by omega), show w1.length + k - w1.length = k by omega]; exact hq
  refine ⟨fun i j p q hp hq e => ?_, fun k q hq => ⟨h.2 _ q (g2 k q hq), fun j r hr e => ?_⟩⟩
  · have h9 := h.1 _ _ p q (g2 i p hp) (g2 j q hq) e
    omega
  · have h9 := h.1 j (w1.length + k) r q (g1 j r hr) (g2 k q hq) e.symm
    have h8 := (List.getElem?_eq_some_iff.mp hr).1
    omega
theorem mm_at (cI cJ : ClassId) (bd : Nat → Nat) (T : pT) {i : Nat} (hi : i < 8) : ∃ r : Nat × va_E, (mmW cI cJ bd T)[i]? = some r ∧ r.1 = bd i := by
  rcases (show i = 0 ∨ i = 1 ∨ i = 2 ∨ i = 3 ∨ i = 4 ∨ i = 5 ∨ i = 6 ∨ i = 7 by omega) with rfl | rfl | rfl | rfl | rfl | rfl | rfl | rfl
  all_goals exact ⟨_, rfl, rfl⟩
theorem pm_at (cI cJ : ClassId) (ad : Nat → Nat) (S : pS) {i : Nat} (hi : i < 8) : ∃ r : Nat × va_E, (pmW cI cJ ad S)[i]? = some r ∧ r.1 = ad i := by
  rcases (show i = 0 ∨ i = 1 ∨ i = 2 ∨ i = 3 ∨ i = 4 ∨ i = 5 ∨ i = 6 ∨ i = 7 by omega) with rfl | rfl | rfl | rfl | rfl | rfl | rfl | rfl
  all_goals exact ⟨_, rfl, rfl⟩
theorem pm_adr {cI cJ : ClassId} {ad : Nat → Nat} {S : pS} {k : Nat} {q : Nat × va_E} (h : (pmW cI cJ ad S)[k]? = some q) : ∃ i, i < 8 ∧ q.1 = ad i := by
  have hk : k < 8 := (List.getElem?_eq_some_iff.mp h).1
  rcases (show k = 0 ∨ k = 1 ∨ k = 2 ∨ k = 3 ∨ k = 4 ∨ k = 5 ∨ k = 6 ∨ k = 7 by omega) with rfl | rfl | rfl | rfl | rfl | rfl | rfl | rfl
  all_goals (cases h; exact ⟨_, hk, rfl⟩)
theorem xw_at (cI cJ : ClassId) (ad : Nat → Nat) (ao : Nat) (S : pS) (o : Nat → Int64) {i : Nat} (hi : i < 8) : ∃ r : Nat × va_E, (xW cI cJ ad ao S o)[i]? = some r ∧ r.1 = ad i := by
  rcases (show i = 0 ∨ i = 1 ∨ i = 2 ∨ i = 3 ∨ i = 4 ∨ i = 5 ∨ i = 6 ∨ i = 7 by omega) with rfl | rfl | rfl | rfl | rfl | rfl | rfl | rfl
  all_goals exact ⟨_, rfl, rfl⟩
theorem lwI_of {D : va_G} {cI cJ : ClassId} {s : State} {ad : Nat → Nat} {ao : Nat} {bd : Nat → Nat} {S : pS} {o : Nat → Int64} {T : pT} {H : Heap} (hP : va_P D pCl (xW cI cJ ad ao S o ++ mmW cI cJ bd T) H) (hD : va_D (fun q : Nat => s.heap.size ≤ q) (xW cI cJ ad ao S o ++ mmW cI cJ bd T)) : lwI D cI cJ s ad ao bd S o T H := by
  refine ⟨hP.sub [0, 1, 2, 3, 4, 5, 6, 7, 8] rfl, hP.sub [9, 10, 11, 12, 13, 14, 15, 16] rfl, (D_left hD).weaken (fun k q hk h => ⟨h.1, fun i hi e => ?_⟩), (D_right hD).weaken (fun k q hk h => ⟨h.1, h.2 8 _ rfl, fun i hi e => ?_⟩)⟩
  · obtain ⟨r, h1, h2⟩ := mm_at cI cJ bd T hi
    exact h.2 i r h1 (by rw [h2]; exact e)
  · obtain ⟨r, h1, h2⟩ := xw_at cI cJ ad ao S o hi
    exact h.2 i r h1 (by rw [h2]; exact e)
theorem pm_out {D : va_G} {cI cJ : ClassId} {ad : Nat → Nat} {S : pS} {H : Heap} (hP : va_P D pCl (pmW cI cJ ad S) H) {q : Nat} (hq : H.size ≤ q) {i : Nat} (hi : i < 8) : q ≠ ad i := by
  obtain ⟨r, h1, h2⟩ := pm_at cI cJ ad S hi
  have h3 := vx_lt hP h1
  omega
set_option maxHeartbeats 8000000 in
set_option maxRecDepth 100000 in
theorem whole_start {p : Program} {e : Env} {s : State} {m : MethodId} {below : List Frame} {meth : Method} {c : Code} (l : Launch) (hflags : l.flags = flags0) {b L : Nat} {xs : Nat → Int32} (hL : L ≤ 2048) (C0 : lw_At p s m meth c b L xs) : W p l e room_1 s m #[Value.ref b] below meth c s.heap [] 0 0 (lw_Z below #[Value.ref b] s) (entryFrame m ([Value.ref b] : List Value).toArray 8) := by
  obtain ⟨hx, hb, hr, hml, hown, htsT, hX, hbl, hlocks, hgv⟩ := id C0
  have hb : c.code = cL_law := hb
  have hown : s.vm.findClass RL = some m.cls := hown
  have hfl : l.stackTraces = false := by unfold Launch.stackTraces; rw [hflags]; rfl
  have hE := st_xE htsT hgv
  have hNc := st_xN hgv
  have hts : ∀ w ∈ wsL_law, w.before #[Value.ref b] s = true := fun w hw => htsT w (wsL_law_in w hw)
  have hA : ∀ q : Nat, s.heap.size ≤ q → (fun q : Nat => s.heap.size ≤ q) q := fun _ h => h
  obtain ⟨c0, i0, hKn0⟩ := u_known (C := RX0) (T := TX0) (N := 9) (n := 9) htsT inX0 (htsT (.instantiable RX0 9) (by decide +kernel))
  obtain ⟨c1, i1, hKn1⟩ := u_known (C := RX1) (T := TX1) (N := 12) (n := 12) htsT inX1 (htsT (.instantiable RX1 12) (by decide +kernel))
  obtain ⟨cI, aI, fI⟩ := arr_known (ty := .int) (htsT (.arrayClass .int) (by decide +kernel))
  obtain ⟨cJ, aJ, fJ⟩ := arr_known (ty := .long) (htsT (.arrayClass .long) (by decide +kernel))
  obtain ⟨D, hKc⟩ : ∃ D : va_G, ∀ (k : Nat) (q : vw_C), pCl[k]? = some q → u_Kn s q.1 q.2.1 q.2.2 (D.1 k) (D.2 k) := by
    refine ⟨(fun k => if k = 0 then c0 else c1, fun k => if k = 0 then i0 else i1), ?_⟩
    intro k q hq
    match k, hq with
    | 0, hq => cases hq; exact hKn0
    | 1, hq => cases hq; exact hKn1
    | k + 2, hq => simp [pCl] at hq
  have hK : va_K D pCl (pTy cI cJ) s := by
    refine ⟨hKc, fun k q h => ?_⟩
    match k, h with
    | 0, h => cases h; exact ⟨aI, fI⟩
    | 1, h => cases h; exact ⟨aJ, fJ⟩
    | k + 2, h => simp [pTy] at h
  have hS : va_S (fun q : Nat => s.heap.size ≤ q) s.heap s.heap [] := va_S.rf
  have hP : va_P D pCl [] s.heap := fun k q h => by simp at h
  have hD : va_D (fun q : Nat => s.heap.size ≤ q) [] := ⟨fun i j p q h => by simp at h, fun k q h => by simp at h⟩
  have hl := lv_entry ([.ref b]) (n := 8) (Nat.le_of_ble_eq_true rfl)
  rw [lg_entry_eq]
  generalize (lg_sl ([.ref b]) ++ List.replicate (8 - (lg_sl ([.ref b])).length) Slot.unset).toArray = ls at hl ⊢
  have hl : lv_has ls 8 [(0, .ref b)] := hl
  refine va_new (ci := 0) (fs := [.null, .null, .null, .null, .null, .null, .null, .int 0, .int 0]) (C := RX0) (T := TX0) (N := 9) hx hb htsT inX0 tyX0 tyX0_ok hown (hts (.classLink RL 8 RX0) (by decide +kernel)) (htsT (.instantiable RX0 9) (by decide +kernel)) (hts (.initialized RX0) (by decide +kernel)) hK hP hD hS hA rfl (fun j hj => by rcases (show j = 0 ∨ j = 1 ∨ j = 2 ∨ j = 3 ∨ j = 4 ∨ j = 5 ∨ j = 6 ∨ j = 7 ∨ j = 8 by omega) with rfl | rfl | rfl | rfl | rfl | rfl | rfl | rfl | rfl <;> rfl) (Nat.le_of_ble_eq_true rfl) (Nat.le_of_ble_eq_true rfl) dL_law_0 (fun h0 H hP hD hS => ?_)
  refine W.widen (k := 1) (n := 9) (by omega) (by omega) ?_
  have hP : va_P D pCl [(h0, .inr (0, [.null, .null, .null, .null, .null, .null, .null, .int 0, .int 0]))] H := hP
  have hD : va_D (fun q : Nat => s.heap.size ≤ q) [(h0, .inr (0, [.null, .null, .null, .null, .null, .null, .null, .int 0, .int 0]))] := hD
  refine lv_dup hx hb dL_law_3 rfl ?_
  refine va_callv (va_runI (As := []) (rest := [.ref h0]) ⟨hx, hb, hml, hown, hts⟩ (met_X0_init l D cI cJ (fun q : Nat => s.heap.size ≤ q) h0) (cwI 0 hts gL_law_X0_init rfl rfl rfl (hts (.initialized RX0) (by decide +kernel)) (hts (.methodLink RL 126 yX0_init) (by decide +kernel)) (hts (.instanceMethod yX0_init) (by decide +kernel)) rfl (by decide +kernel) ⟨Nat.le_of_ble_eq_true rfl, Nat.le_of_ble_eq_true rfl⟩) ⟨fun a U g mk q => ⟨q.1, q.2.1, va_K.moved (u := U) (U := U.calling g mk a) (Vm.Alike.refl U.vm) q.2.2.1, q.2.2.2⟩, fun U hU hW => ⟨rfl, by rw [hU]; exact hP, va_K.moved hW.alike hK, hD, fun q hq => by rw [hU] at hq; exact Nat.le_trans hS.1 hq⟩⟩ rfl rfl hl.1 rfl (lv_room (Nat.le_of_ble_eq_true rfl)) dL_law_4 ⟨Nat.le_of_ble_eq_true rfl, Nat.le_of_ble_eq_true rfl⟩) hS (fun q _ h => h) (fun q h => h) (fun ad t H1 locs ht hvm hw hB hz hk1 hS => ?_)
  obtain ⟨hP1, hD1⟩ := hB
  rw [ht] at hP1
  refine W.widen (k := 8) (n := 65) (by omega) (by omega) ?_
  subst hw
  refine lv_astore_n (lv' := [(1, .ref (ad 0)), (0, .ref b)]) hx hb dL_law_7 rfl hl (by decide) rfl (fun ls hl => ?_)
  refine va_new (ci := 1) (fs := [.null, .null, .null, .null, .null, .null, .null, .int 0, .int 0, .long 0, .int 0, .int 0]) (C := RX1) (T := TX1) (N := 12) hx hb htsT inX1 tyX1 tyX1_ok hown (hts (.classLink RL 127 RX1) (by decide +kernel)) (htsT (.instantiable RX1 12) (by decide +kernel)) (hts (.initialized RX1) (by decide +kernel)) hK hP1 hD1 hS hA rfl (fun j hj => by rcases (show j = 0 ∨ j = 1 ∨ j = 2 ∨ j = 3 ∨ j = 4 ∨ j = 5 ∨ j = 6 ∨ j = 7 ∨ j = 8 ∨ j = 9 ∨ j = 10 ∨ j = 11 by omega) with rfl | rfl | rfl | rfl | rfl | rfl | rfl | rfl | rfl | rfl | rfl | rfl <;> rfl) (Nat.le_of_ble_eq_true rfl) (Nat.le_of_ble_eq_true rfl) dL_law_8 (fun h1 H hP hD hS => ?_)
  refine W.widen (k := 9) (n := 77) (by omega) (by omega) ?_
  refine lv_dup hx hb dL_law_11 rfl ?_
  have hPa : va_P D pCl (pmW cI cJ ad S00) H := hP.sub [0, 1, 2, 3, 4, 5, 6, 7] rfl
  have hPb : va_P D pCl [(h1, .inr (1, [.null, .null, .null, .null, .null, .null, .null, .int 0, .int 0, .long 0, .int 0, .int 0]))] H := hP.sub [8] rfl
  have hDb : va_D (fun q : Nat => s.heap.size ≤ q ∧ ∀ i : Nat, i < 8 → q ≠ ad i) [(h1, .inr (1, [.null, .null, .null, .null, .null, .null, .null, .int 0, .int 0, .long 0, .int 0, .int 0]))] := by
    refine (D_right (w1 := pmW cI cJ ad S00) hD).weaken (fun k q hk h => ⟨h.1, fun i hi e => ?_⟩)
    obtain ⟨r, h1, h2⟩ := pm_at cI cJ ad S00 hi
    exact h.2 i r h1 (by rw [h2]; exact e)
  refine va_callv (va_runI (As := []) (rest := [.ref h1]) ⟨hx, hb, hml, hown, hts⟩ (met_X1_init l D cI cJ (fun q : Nat => s.heap.size ≤ q ∧ ∀ i : Nat, i < 8 → q ≠ ad i) h1) (cwI 0 hts gL_law_X1_init rfl rfl rfl (hts (.initialized RX1) (by decide +kernel)) (hts (.methodLink RL 129 yX1_init) (by decide +kernel)) (hts (.instanceMethod yX1_init) (by decide +kernel)) rfl (by decide +kernel) ⟨Nat.le_of_ble_eq_true rfl, Nat.le_of_ble_eq_true rfl⟩) ⟨fun a U g mk q => ⟨q.1, q.2.1, va_K.moved (u := U) (U := U.calling g mk a) (Vm.Alike.refl U.vm) q.2.2.1, q.2.2.2⟩, fun U hU hW => ⟨rfl, by rw [hU]; exact hPb, va_K.moved hW.alike hK, hDb, fun q hq => by rw [hU] at hq; exact ⟨Nat.le_trans hS.1 hq, fun i hi => pm_out hPa hq hi⟩⟩⟩ rfl rfl hl.1 rfl (lv_room (Nat.le_of_ble_eq_true rfl)) dL_law_12 ⟨Nat.le_of_ble_eq_true rfl, Nat.le_of_ble_eq_true rfl⟩) hS (fun q _ h => h.1) (fun q h => h.1) (fun bd t H1 locs ht hvm hw hB hz hk1 hS => ?_)
  obtain ⟨hP2, hD2⟩ := hB
  rw [ht] at hP2
  refine W.widen (k := 16) (n := 133) (by omega) (by omega) ?_
  subst hw
  have hPa := hPa.kept (fun k q hq => hk1 _ (vx_lt hPa hq) (fun h => by obtain ⟨i, hi, e⟩ := pm_adr hq; exact h.2 i hi e))
  have hP := hPa.app hP2
  have hD : va_D (fun q : Nat => s.heap.size ≤ q) (pmW cI cJ ad S00 ++ mmW cI cJ bd T00) := va_D.app hD1 (hD2.weaken (fun _ _ _ h => h.1)) (fun i j x y hx1 hy1 e => by obtain ⟨k, hk, e2⟩ := pm_adr hx1; exact (hD2.2 j y hy1).2 k hk (by rw [← e, e2]))
  refine lv_astore_n (lv' := [(2, .ref (bd 0)), (1, .ref (ad 0)), (0, .ref b)]) hx hb dL_law_15 rfl hl (by decide) rfl (fun ls hl => ?_)
  refine lv_iconst (v := 1) hx hb dL_law_16 (by decide) ?_
  refine xnewa (atype := .long) hx hb (htsT (.arrayClass .long) (by decide +kernel)) (ty := .long) rfl (t0 := 1) rfl (fun _ h => h) hK hP hD hS hA (N' := 1) (a0 := (1, .inr (.inl (fun _ => 0)))) (fun _ => rfl) (by decide) (by decide) (by decide) (Nat.le_of_ble_eq_true rfl) (Nat.le_of_ble_eq_true rfl) dL_law_17 (fun ao H hP hD hS => ?_)
  refine W.widen (k := 17) (n := 134) (by omega) (by omega) ?_
  refine lv_astore_n (lv' := [(3, .ref ao), (2, .ref (bd 0)), (1, .ref (ad 0)), (0, .ref b)]) hx hb dL_law_19 rfl hl (by decide) rfl (fun ls hl => ?_)
  refine lv_iconst (v := 0) hx hb dL_law_20 (by decide) ?_
  refine lv_istore (lv' := [(4, .int 0), (3, .ref ao), (2, .ref (bd 0)), (1, .ref (ad 0)), (0, .ref b)]) hx hb dL_law_21 hl (by decide) rfl (fun ls hl => ?_)
  have hI : lwI D cI cJ s ad ao bd S00 (fun _ => 0) T00 H := lwI_of (hP.sub [0, 1, 2, 3, 4, 5, 6, 7, 16, 8, 9, 10, 11, 12, 13, 14, 15] rfl) (hD.sub [0, 1, 2, 3, 4, 5, 6, 7, 16, 8, 9, 10, 11, 12, 13, 14, 15] (by decide) rfl)
  exact lw_loop hfl hL C0 hK hE hNc L 0 (by omega) (by omega) 0 nI_0.symm _ _ S00 T00 (fun _ => 0) hI rel_00 hS ls hl


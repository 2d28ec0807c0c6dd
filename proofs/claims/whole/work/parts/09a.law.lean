/-! THE LAW: what holds at its loop's head; the world of the class's side and the reference's side, each outside the other -/
def lwX (s : State) (bd : Nat → Nat) (q : Nat) : Prop := s.heap.size ≤ q ∧ ∀ i : Nat, i < 8 → q ≠ bd i
def lwM (s : State) (ad : Nat → Nat) (ao : Nat) (q : Nat) : Prop := s.heap.size ≤ q ∧ q ≠ ao ∧ ∀ i : Nat, i < 8 → q ≠ ad i
def lwI (D : va_G) (cI cJ : ClassId) (s : State) (ad : Nat → Nat) (ao : Nat) (bd : Nat → Nat) (S : pS) (o : Nat → Int64) (T : pT) (H : Heap) : Prop :=
  va_P D pCl (xW cI cJ ad ao S o) H ∧ va_P D pCl (mmW cI cJ bd T) H ∧ va_D (lwX s bd) (xW cI cJ ad ao S o) ∧ va_D (lwM s ad ao) (mmW cI cJ bd T)
theorem mm_adr {cI cJ : ClassId} {bd : Nat → Nat} {T : pT} {k : Nat} {q : Nat × va_E} (h : (mmW cI cJ bd T)[k]? = some q) : ∃ i, i < 8 ∧ q.1 = bd i := by
  have hk : k < 8 := (List.getElem?_eq_some_iff.mp h).1
  rcases (show k = 0 ∨ k = 1 ∨ k = 2 ∨ k = 3 ∨ k = 4 ∨ k = 5 ∨ k = 6 ∨ k = 7 by omega) with rfl | rfl | rfl | rfl | rfl | rfl | rfl | rfl
  all_goals (cases h; exact ⟨_, hk, rfl⟩)
theorem xw_adr {cI cJ : ClassId} {ad : Nat → Nat} {ao : Nat} {S : pS} {o : Nat → Int64} {k : Nat} {q : Nat × va_E} (h : (xW cI cJ ad ao S o)[k]? = some q) : q.1 = ao ∨ ∃ i, i < 8 ∧ q.1 = ad i := by
  have hk : k < 9 := (List.getElem?_eq_some_iff.mp h).1
  rcases (show k = 8 ∨ k = 0 ∨ k = 1 ∨ k = 2 ∨ k = 3 ∨ k = 4 ∨ k = 5 ∨ k = 6 ∨ k = 7 by omega) with rfl | rfl | rfl | rfl | rfl | rfl | rfl | rfl | rfl
  · cases h; exact Or.inl rfl
  all_goals (cases h; exact Or.inr ⟨_, by decide, rfl⟩)
theorem lwI_x {D : va_G} {cI cJ : ClassId} {s : State} {ad : Nat → Nat} {ao : Nat} {bd : Nat → Nat} {S S' : pS} {o o' : Nat → Int64} {T : pT} {H H1 : Heap} (h : lwI D cI cJ s ad ao bd S o T H) (hP : va_P D pCl (xW cI cJ ad ao S' o') H1) (hk : ∀ q : Nat, q < H.size → ¬ lwX s bd q → H1[q]? = H[q]?) : lwI D cI cJ s ad ao bd S' o' T H1 :=
  ⟨hP, h.2.1.kept (fun k q hq => hk _ (vx_lt h.2.1 hq) (fun hx => by obtain ⟨i, hi, e⟩ := mm_adr hq; exact hx.2 i hi e)), xD_any h.2.2.1, h.2.2.2⟩
theorem lwI_m {D : va_G} {cI cJ : ClassId} {s : State} {ad : Nat → Nat} {ao : Nat} {bd : Nat → Nat} {S : pS} {o : Nat → Int64} {T T' : pT} {H H1 : Heap} (h : lwI D cI cJ s ad ao bd S o T H) (hP : va_P D pCl (mmW cI cJ bd T') H1) (hD : va_D (lwM s ad ao) (mmW cI cJ bd T')) (hk : ∀ q : Nat, q < H.size → ¬ lwM s ad ao q → H1[q]? = H[q]?) : lwI D cI cJ s ad ao bd S o T' H1 :=
  ⟨h.1.kept (fun k q hq => hk _ (vx_lt h.1 hq) (fun hx => by rcases xw_adr hq with e | ⟨i, hi, e⟩; exact hx.2.1 e; exact hx.2.2 i hi e)), hP, h.2.2.1, hD⟩
theorem lwI_k {D : va_G} {cI cJ : ClassId} {s : State} {ad : Nat → Nat} {ao : Nat} {bd : Nat → Nat} {S : pS} {o : Nat → Int64} {T : pT} {H H1 : Heap} (h : lwI D cI cJ s ad ao bd S o T H) (hk : ∀ q : Nat, q < H.size → ¬ False → H1[q]? = H[q]?) : lwI D cI cJ s ad ao bd S o T H1 :=
  ⟨h.1.kept (fun k q hq => hk _ (vx_lt h.1 hq) (fun x => x)), h.2.1.kept (fun k q hq => hk _ (vx_lt h.2.1 hq) (fun x => x)), h.2.2.1, h.2.2.2⟩
theorem lw_n {i L : Nat} (hL : L ≤ 2048) (hi : i + 4 ≤ L) {x : Int32} (hx : x = nI i) : vp_in x L ∧ vp_in (x + 1) L ∧ vp_in (x + 2) L ∧ vp_in (x + 3) L := by
  rw [hx]
  have h1 : nI i + 1 = nI (i + 1) := nI_add i 1
  have h2 : nI i + 2 = nI (i + 2) := nI_add i 2
  have h3 : nI i + 3 = nI (i + 3) := nI_add i 3
  rw [h1, h2, h3]
  exact ⟨nI_in (by omega) (by omega), nI_in (by omega) (by omega), nI_in (by omega) (by omega), nI_in (by omega) (by omega)⟩
set_option maxHeartbeats 4000000 in
set_option maxRecDepth 100000 in
theorem lw_c0 {p : Program} {l : Launch} {e : Env} {s : State} {m : MethodId} {below : List Frame} {meth : Method} {c : Code} {b L : Nat} {xs : Nat → Int32} (hfl : l.stackTraces = false) (hL : L ≤ 2048) (C0 : lw_At p s m meth c b L xs) {D : va_G} {cI cJ : ClassId} {ad : Nat → Nat} {ao : Nat} {bd : Nat → Nat} (hK : va_K D pCl (pTy cI cJ) s) (hE : xE (fun q : Nat => s.heap.size ≤ q) s s.heap) (hNc : xN s) (H : Heap) (locs : List Loc) (S : pS) (T : pT) (o : Nat → Int64) (hI : lwI D cI cJ s ad ao bd S o T H) (hR : rel S T) (hS : va_S (fun q : Nat => s.heap.size ≤ q) s.heap H locs) (i : Nat) (hi : i + 4 ≤ L) (x4 : Int32) (hx4 : x4 = nI i) (k n : Nat) (hk : k + 6 ≤ 3102) (hn : n + 36 ≤ 118996) (ls : Array Slot) (hl : lv_has ls 8 [(4, .int x4), (3, .ref ao), (2, .ref (bd 0)), (1, .ref (ad 0)), (0, .ref b)])
    (K : ∀ (H : Heap) (locs : List Loc) (S : pS) (T : pT) (o : Nat → Int64), lwI D cI cJ s ad ao bd S o T H → rel S T → va_S (fun q : Nat => s.heap.size ≤ q) s.heap H locs → ∀ ls : Array Slot, lv_has ls 8 [(4, .int x4), (3, .ref ao), (2, .ref (bd 0)), (1, .ref (ad 0)), (0, .ref b)] → W p l e room_1 s m #[Value.ref b] below meth c H locs (k + 6) (n + 36) (lw_Z below #[Value.ref b] s) (F0 m 2318 ls [])) : W p l e room_1 s m #[Value.ref b] below meth c H locs k n (lw_Z below #[Value.ref b] s) (F0 m 188 ls []) := by
  obtain ⟨hx, hb, hr, hml, hown, hts, hX, hbl, hlocks, hgv⟩ := C0
  have hb : c.code = cL_law := hb
  have hown : s.vm.findClass RL = some m.cls := hown
  have hts : ∀ w ∈ wsL_law, w.before #[Value.ref b] s = true := fun w hw => hts w (wsL_law_in w hw)
  have hbA : ¬ (fun q : Nat => s.heap.size ≤ q) b := Nat.not_le.mpr hbl
  obtain ⟨hi0, hi1, hi2, hi3⟩ := lw_n hL hi hx4
  refine lv_aload_n hx hb dL_law_188 rfl (lv_at hl 3 rfl) ?_
  refine lv_aload_n hx hb dL_law_189 rfl (lv_at hl 4 rfl) ?_
  refine lv_iload hx hb dL_law_190 (lv_at hl 0 rfl) ?_
  refine lv_iconst (v := 1) hx hb dL_law_192 (by decide) ?_
  refine lv_iadd hx hb dL_law_193 ?_
  refine va_sld hx hb hX hbl hbA hS hi1 dL_law_194 ?_
  refine lv_aload_n hx hb dL_law_195 rfl (lv_at hl 4 rfl) ?_
  refine lv_iload hx hb dL_law_196 (lv_at hl 0 rfl) ?_
  refine lv_iconst (v := 2) hx hb dL_law_198 (by decide) ?_
  refine lv_iadd hx hb dL_law_199 ?_
  refine va_sld hx hb hX hbl hbA hS hi2 dL_law_200 ?_
  refine lv_aload_n hx hb dL_law_201 rfl (lv_at hl 1 rfl) ?_
  refine va_calli (vx_runSW (As := [.ref (ad 0), .int (xs (x4 + 1).toNatClampNeg), .int (xs (x4 + 2).toNatClampNeg), .ref ao]) (rest := []) ⟨hx, hb, hml, hown, hts⟩ (met_L_put l hfl D cI cJ ad ao (lwX s bd) S o ((xs (x4 + 1).toNatClampNeg)) ((xs (x4 + 2).toNatClampNeg)) (rel_nx hR)) (vx_cwSW 4 hts gL_law_L_put rfl rfl rfl (by decide +kernel) ⟨Nat.le_of_ble_eq_true rfl, Nat.le_of_ble_eq_true rfl⟩) ⟨fun a U g mk q => ⟨q.1, q.2.1, va_K.moved (u := U) (U := U.calling g mk a) (Vm.Alike.refl U.vm) q.2.2.1, q.2.2.2.1, xE_calling q.2.2.2.2.1, xN_calling q.2.2.2.2.2⟩, fun U hU hW => ⟨rfl, by rw [hU]; exact hI.1, va_K.moved hW.alike hK, hI.2.2.1, xE_narrow (xE_at hE hS hU hW) (fun q h => h.elim), xN_at hNc hW⟩⟩ rfl rfl hl.1 rfl (lv_room (Nat.le_of_ble_eq_true rfl)) dL_law_202 ⟨by show _ ≤ 3102; omega, by show _ ≤ 118996; omega⟩) hS (fun q _ h => h.1) (fun q h => h.1) (fun r u t H1 locs ht hvm hw hB hz hk1 hS => ?_)
  rw [ht] at hB
  have hI := lwI_x hI hB hk1
  generalize H1 = H at hI hS ⊢
  refine lv_istore (lv' := [(5, .int r), (4, .int x4), (3, .ref ao), (2, .ref (bd 0)), (1, .ref (ad 0)), (0, .ref b)]) hx hb dL_law_205 hl (by decide) rfl (fun ls hl => ?_)
  refine lv_aload_n hx hb dL_law_207 rfl (lv_at hl 3 rfl) ?_
  refine lv_aload_n hx hb dL_law_208 rfl (lv_at hl 5 rfl) ?_
  refine lv_iload hx hb dL_law_209 (lv_at hl 1 rfl) ?_
  refine lv_iconst (v := 1) hx hb dL_law_211 (by decide) ?_
  refine lv_iadd hx hb dL_law_212 ?_
  refine va_sld hx hb hX hbl hbA hS hi1 dL_law_213 ?_
  refine lv_aload_n hx hb dL_law_214 rfl (lv_at hl 5 rfl) ?_
  refine lv_iload hx hb dL_law_215 (lv_at hl 1 rfl) ?_
  refine lv_iconst (v := 2) hx hb dL_law_217 (by decide) ?_
  refine lv_iadd hx hb dL_law_218 ?_
  refine va_sld hx hb hX hbl hbA hS hi2 dL_law_219 ?_
  refine va_calli (va_runV (As := [.int (xs (x4 + 1).toNatClampNeg), .int (xs (x4 + 2).toNatClampNeg)]) (rest := []) ⟨hx, hb, hml, hown, hts⟩ (met_X1_put l D cI cJ bd (lwM s ad ao) T ((xs (x4 + 1).toNatClampNeg)) ((xs (x4 + 2).toNatClampNeg)) (rel_kp hR)) (cwV 2 hts gL_law_X1_put rfl rfl rfl (by decide +kernel) ⟨Nat.le_of_ble_eq_true rfl, Nat.le_of_ble_eq_true rfl⟩) ⟨fun a U g mk q => ⟨q.1, b1R_calling q.2.1, q.2.2⟩, va_recv hK hI.2.1 (ci := 1) (q0 := 0) rfl rfl, fun U hU hW => ⟨rfl, b1R_at hI.2.1 hK hU hW, hI.2.2.2⟩⟩ rfl rfl hl.1 rfl (lv_room (Nat.le_of_ble_eq_true rfl)) dL_law_220 ⟨by show _ ≤ 3102; omega, by show _ ≤ 118996; omega⟩) hS (fun q _ h => h.1) (fun q h => h.1) (fun r2 u2 t H1 locs ht hvm hw2 hB hz hk2 hS => ?_)
  obtain ⟨hP1, hD1⟩ := hB
  rw [ht] at hP1
  have hI := lwI_m hI hP1 hD1 hk2
  generalize H1 = H at hI hS ⊢
  have hg := ag_put hR o ((xs (x4 + 1).toNatClampNeg)) ((xs (x4 + 2).toNatClampNeg))
  rw [hw, hw2] at hg
  obtain ⟨hg1, hR, hg3⟩ := hg
  refine lv_istore (lv' := [(6, .int r2), (5, .int r), (4, .int x4), (3, .ref ao), (2, .ref (bd 0)), (1, .ref (ad 0)), (0, .ref b)]) hx hb dL_law_223 hl (by decide) rfl (fun ls hl => ?_)
  refine lv_aload_n hx hb dL_law_225 rfl (lv_at hl 4 rfl) ?_
  refine va_calli (va_runV (As := []) (rest := []) ⟨hx, hb, hml, hown, hts⟩ (met_X1_thrown l D cI cJ bd u2) (cwV 0 hts gL_law_X1_thrown rfl rfl rfl (by decide +kernel) ⟨Nat.le_of_ble_eq_true rfl, Nat.le_of_ble_eq_true rfl⟩) ⟨fun a U g mk q => ⟨q.1, b1R_calling q.2⟩, va_recv hK hI.2.1 (ci := 1) (q0 := 0) rfl rfl, fun U hU hW => ⟨rfl, b1R_at hI.2.1 hK hU hW⟩⟩ rfl rfl hl.1 rfl (lv_room (Nat.le_of_ble_eq_true rfl)) dL_law_226 ⟨by show _ ≤ 3102; omega, by show _ ≤ 118996; omega⟩) hS (fun q _ h => h.elim) (fun q h => h.elim) (fun r3 u3 t H1 locs ht hvm hw3 hB hz hk2 hS => ?_)
  have hI := lwI_k hI hk2
  generalize H1 = H at hI hS ⊢
  have hr3 : r3 = r := by rw [← hw3]; exact hg1
  refine W.widen (k := k + 6) (n := n + 36) (by omega) (by omega) ?_
  refine lv_iload hx hb dL_law_229 (lv_at hl 1 rfl) ?_
  refine lv_icmp_eq (tgt := 236) hx hb dL_law_231 (by decide) (fun cz => ?_) (fun cz => absurd hr3 cz)
  refine lv_iload hx hb dL_law_236 (lv_at hl 1 rfl) ?_
  have kk : W p l e room_1 s m #[Value.ref b] below meth c H locs (k + 6) (n + 36) (lw_Z below #[Value.ref b] s) (F0 m 253 ls []) := by
    refine lv_goto (tgt := 2318) hx hb dL_law_253 (by decide) ?_
    exact K _ _ _ _ _ hI hR hS _ (lv_sub hl [2, 3, 4, 5, 6] rfl)
  refine lv_if_ne (tgt := 253) hx hb dL_law_238 (by decide) (fun cz2 => kk) (fun cz2 => ?_)
  refine lv_aload_n hx hb dL_law_241 rfl (lv_at hl 3 rfl) ?_
  refine lv_iconst (v := 0) hx hb dL_law_242 (by decide) ?_
  refine va_lald hx hb hK hI.1 8 1 rfl rfl in01 dL_law_243 ?_
  refine lv_iload hx hb dL_law_244 (lv_at hl 0 rfl) ?_
  refine lv_i2l hx hb dL_law_246 rfl ?_
  refine W.lcmp hx hb dL_law_247 ?_
  refine lv_if_eq (tgt := 253) hx hb dL_law_248 (by decide) (fun cz3 => kk) (fun cz3 => absurd ((lg_cmp_eq _ _).mpr (hg3 cz2)) cz3)

set_option maxHeartbeats 4000000 in
set_option maxRecDepth 100000 in
theorem lw_c1 {p : Program} {l : Launch} {e : Env} {s : State} {m : MethodId} {below : List Frame} {meth : Method} {c : Code} {b L : Nat} {xs : Nat → Int32} (hfl : l.stackTraces = false) (hL : L ≤ 2048) (C0 : lw_At p s m meth c b L xs) {D : va_G} {cI cJ : ClassId} {ad : Nat → Nat} {ao : Nat} {bd : Nat → Nat} (hK : va_K D pCl (pTy cI cJ) s) (hE : xE (fun q : Nat => s.heap.size ≤ q) s s.heap) (hNc : xN s) (H : Heap) (locs : List Loc) (S : pS) (T : pT) (o : Nat → Int64) (hI : lwI D cI cJ s ad ao bd S o T H) (hR : rel S T) (hS : va_S (fun q : Nat => s.heap.size ≤ q) s.heap H locs) (i : Nat) (hi : i + 4 ≤ L) (x4 : Int32) (hx4 : x4 = nI i) (k n : Nat) (hk : k + 6 ≤ 3102) (hn : n + 36 ≤ 118996) (ls : Array Slot) (hl : lv_has ls 8 [(4, .int x4), (3, .ref ao), (2, .ref (bd 0)), (1, .ref (ad 0)), (0, .ref b)])
    (K : ∀ (H : Heap) (locs : List Loc) (S : pS) (T : pT) (o : Nat → Int64), lwI D cI cJ s ad ao bd S o T H → rel S T → va_S (fun q : Nat => s.heap.size ≤ q) s.heap H locs → ∀ ls : Array Slot, lv_has ls 8 [(4, .int x4), (3, .ref ao), (2, .ref (bd 0)), (1, .ref (ad 0)), (0, .ref b)] → W p l e room_1 s m #[Value.ref b] below meth c H locs (k + 6) (n + 36) (lw_Z below #[Value.ref b] s) (F0 m 2318 ls [])) : W p l e room_1 s m #[Value.ref b] below meth c H locs k n (lw_Z below #[Value.ref b] s) (F0 m 256 ls []) := by
  obtain ⟨hx, hb, hr, hml, hown, hts, hX, hbl, hlocks, hgv⟩ := C0
  have hb : c.code = cL_law := hb
  have hown : s.vm.findClass RL = some m.cls := hown
  have hts : ∀ w ∈ wsL_law, w.before #[Value.ref b] s = true := fun w hw => hts w (wsL_law_in w hw)
  have hbA : ¬ (fun q : Nat => s.heap.size ≤ q) b := Nat.not_le.mpr hbl
  obtain ⟨hi0, hi1, hi2, hi3⟩ := lw_n hL hi hx4
  refine lv_aload_n hx hb dL_law_256 rfl (lv_at hl 3 rfl) ?_
  refine lv_aload_n hx hb dL_law_257 rfl (lv_at hl 4 rfl) ?_
  refine lv_iload hx hb dL_law_258 (lv_at hl 0 rfl) ?_
  refine lv_iconst (v := 1) hx hb dL_law_260 (by decide) ?_
  refine lv_iadd hx hb dL_law_261 ?_
  refine va_sld hx hb hX hbl hbA hS hi1 dL_law_262 ?_
  refine lv_aload_n hx hb dL_law_263 rfl (lv_at hl 4 rfl) ?_
  refine lv_iload hx hb dL_law_264 (lv_at hl 0 rfl) ?_
  refine lv_iconst (v := 2) hx hb dL_law_266 (by decide) ?_
  refine lv_iadd hx hb dL_law_267 ?_
  refine va_sld hx hb hX hbl hbA hS hi2 dL_law_268 ?_
  refine lv_aload_n hx hb dL_law_269 rfl (lv_at hl 4 rfl) ?_
  refine lv_iload hx hb dL_law_270 (lv_at hl 0 rfl) ?_
  refine lv_iconst (v := 3) hx hb dL_law_272 (by decide) ?_
  refine lv_iadd hx hb dL_law_273 ?_
  refine va_sld hx hb hX hbl hbA hS hi3 dL_law_274 ?_
  refine lv_aload_n hx hb dL_law_275 rfl (lv_at hl 1 rfl) ?_
  refine va_calli (vx_runSW (As := [.ref (ad 0), .int (xs (x4 + 1).toNatClampNeg), .int (xs (x4 + 2).toNatClampNeg), .int (xs (x4 + 3).toNatClampNeg), .ref ao]) (rest := []) ⟨hx, hb, hml, hown, hts⟩ (met_L_power l hfl D cI cJ ad ao (lwX s bd) S o ((xs (x4 + 1).toNatClampNeg)) ((xs (x4 + 2).toNatClampNeg)) ((xs (x4 + 3).toNatClampNeg)) (rel_nx hR)) (vx_cwSW 5 hts gL_law_L_power rfl rfl rfl (by decide +kernel) ⟨Nat.le_of_ble_eq_true rfl, Nat.le_of_ble_eq_true rfl⟩) ⟨fun a U g mk q => ⟨q.1, q.2.1, va_K.moved (u := U) (U := U.calling g mk a) (Vm.Alike.refl U.vm) q.2.2.1, q.2.2.2.1, xE_calling q.2.2.2.2.1, xN_calling q.2.2.2.2.2⟩, fun U hU hW => ⟨rfl, by rw [hU]; exact hI.1, va_K.moved hW.alike hK, hI.2.2.1, xE_narrow (xE_at hE hS hU hW) (fun q h => h.elim), xN_at hNc hW⟩⟩ rfl rfl hl.1 rfl (lv_room (Nat.le_of_ble_eq_true rfl)) dL_law_276 ⟨by show _ ≤ 3102; omega, by show _ ≤ 118996; omega⟩) hS (fun q _ h => h.1) (fun q h => h.1) (fun r u t H1 locs ht hvm hw hB hz hk1 hS => ?_)
  rw [ht] at hB
  have hI := lwI_x hI hB hk1
  generalize H1 = H at hI hS ⊢
  refine lv_istore (lv' := [(5, .int r), (4, .int x4), (3, .ref ao), (2, .ref (bd 0)), (1, .ref (ad 0)), (0, .ref b)]) hx hb dL_law_279 hl (by decide) rfl (fun ls hl => ?_)
  refine lv_aload_n hx hb dL_law_281 rfl (lv_at hl 3 rfl) ?_
  refine lv_aload_n hx hb dL_law_282 rfl (lv_at hl 5 rfl) ?_
  refine lv_iload hx hb dL_law_283 (lv_at hl 1 rfl) ?_
  refine lv_iconst (v := 1) hx hb dL_law_285 (by decide) ?_
  refine lv_iadd hx hb dL_law_286 ?_
  refine va_sld hx hb hX hbl hbA hS hi1 dL_law_287 ?_
  refine lv_aload_n hx hb dL_law_288 rfl (lv_at hl 5 rfl) ?_
  refine lv_iload hx hb dL_law_289 (lv_at hl 1 rfl) ?_
  refine lv_iconst (v := 2) hx hb dL_law_291 (by decide) ?_
  refine lv_iadd hx hb dL_law_292 ?_
  refine va_sld hx hb hX hbl hbA hS hi2 dL_law_293 ?_
  refine lv_aload_n hx hb dL_law_294 rfl (lv_at hl 5 rfl) ?_
  refine lv_iload hx hb dL_law_295 (lv_at hl 1 rfl) ?_
  refine lv_iconst (v := 3) hx hb dL_law_297 (by decide) ?_
  refine lv_iadd hx hb dL_law_298 ?_
  refine va_sld hx hb hX hbl hbA hS hi3 dL_law_299 ?_
  refine va_calli (va_runV (As := [.int (xs (x4 + 1).toNatClampNeg), .int (xs (x4 + 2).toNatClampNeg), .int (xs (x4 + 3).toNatClampNeg)]) (rest := []) ⟨hx, hb, hml, hown, hts⟩ (met_X1_power l D cI cJ bd (lwM s ad ao) T ((xs (x4 + 1).toNatClampNeg)) ((xs (x4 + 2).toNatClampNeg)) ((xs (x4 + 3).toNatClampNeg)) (rel_kp hR)) (cwV 3 hts gL_law_X1_power rfl rfl rfl (by decide +kernel) ⟨Nat.le_of_ble_eq_true rfl, Nat.le_of_ble_eq_true rfl⟩) ⟨fun a U g mk q => ⟨q.1, b1R_calling q.2.1, q.2.2⟩, va_recv hK hI.2.1 (ci := 1) (q0 := 0) rfl rfl, fun U hU hW => ⟨rfl, b1R_at hI.2.1 hK hU hW, hI.2.2.2⟩⟩ rfl rfl hl.1 rfl (lv_room (Nat.le_of_ble_eq_true rfl)) dL_law_300 ⟨by show _ ≤ 3102; omega, by show _ ≤ 118996; omega⟩) hS (fun q _ h => h.1) (fun q h => h.1) (fun r2 u2 t H1 locs ht hvm hw2 hB hz hk2 hS => ?_)
  obtain ⟨hP1, hD1⟩ := hB
  rw [ht] at hP1
  have hI := lwI_m hI hP1 hD1 hk2
  generalize H1 = H at hI hS ⊢
  have hg := ag_power hR o ((xs (x4 + 1).toNatClampNeg)) ((xs (x4 + 2).toNatClampNeg)) ((xs (x4 + 3).toNatClampNeg))
  rw [hw, hw2] at hg
  obtain ⟨hg1, hR, hg3⟩ := hg
  refine lv_istore (lv' := [(6, .int r2), (5, .int r), (4, .int x4), (3, .ref ao), (2, .ref (bd 0)), (1, .ref (ad 0)), (0, .ref b)]) hx hb dL_law_303 hl (by decide) rfl (fun ls hl => ?_)
  refine lv_aload_n hx hb dL_law_305 rfl (lv_at hl 4 rfl) ?_
  refine va_calli (va_runV (As := []) (rest := []) ⟨hx, hb, hml, hown, hts⟩ (met_X1_thrown l D cI cJ bd u2) (cwV 0 hts gL_law_X1_thrown rfl rfl rfl (by decide +kernel) ⟨Nat.le_of_ble_eq_true rfl, Nat.le_of_ble_eq_true rfl⟩) ⟨fun a U g mk q => ⟨q.1, b1R_calling q.2⟩, va_recv hK hI.2.1 (ci := 1) (q0 := 0) rfl rfl, fun U hU hW => ⟨rfl, b1R_at hI.2.1 hK hU hW⟩⟩ rfl rfl hl.1 rfl (lv_room (Nat.le_of_ble_eq_true rfl)) dL_law_306 ⟨by show _ ≤ 3102; omega, by show _ ≤ 118996; omega⟩) hS (fun q _ h => h.elim) (fun q h => h.elim) (fun r3 u3 t H1 locs ht hvm hw3 hB hz hk2 hS => ?_)
  have hI := lwI_k hI hk2
  generalize H1 = H at hI hS ⊢
  have hr3 : r3 = r := by rw [← hw3]; exact hg1
  refine W.widen (k := k + 6) (n := n + 36) (by omega) (by omega) ?_
  refine lv_iload hx hb dL_law_309 (lv_at hl 1 rfl) ?_
  refine lv_icmp_eq (tgt := 316) hx hb dL_law_311 (by decide) (fun cz => ?_) (fun cz => absurd hr3 cz)
  refine lv_iload hx hb dL_law_316 (lv_at hl 1 rfl) ?_
  have kk : W p l e room_1 s m #[Value.ref b] below meth c H locs (k + 6) (n + 36) (lw_Z below #[Value.ref b] s) (F0 m 333 ls []) := by
    refine lv_goto (tgt := 2318) hx hb dL_law_333 (by decide) ?_
    exact K _ _ _ _ _ hI hR hS _ (lv_sub hl [2, 3, 4, 5, 6] rfl)
  refine lv_if_ne (tgt := 333) hx hb dL_law_318 (by decide) (fun cz2 => kk) (fun cz2 => ?_)
  refine lv_aload_n hx hb dL_law_321 rfl (lv_at hl 3 rfl) ?_
  refine lv_iconst (v := 0) hx hb dL_law_322 (by decide) ?_
  refine va_lald hx hb hK hI.1 8 1 rfl rfl in01 dL_law_323 ?_
  refine lv_iload hx hb dL_law_324 (lv_at hl 0 rfl) ?_
  refine lv_i2l hx hb dL_law_326 rfl ?_
  refine W.lcmp hx hb dL_law_327 ?_
  refine lv_if_eq (tgt := 333) hx hb dL_law_328 (by decide) (fun cz3 => kk) (fun cz3 => absurd ((lg_cmp_eq _ _).mpr (hg3 cz2)) cz3)

set_option maxHeartbeats 4000000 in
set_option maxRecDepth 100000 in
theorem lw_c2 {p : Program} {l : Launch} {e : Env} {s : State} {m : MethodId} {below : List Frame} {meth : Method} {c : Code} {b L : Nat} {xs : Nat → Int32} (hfl : l.stackTraces = false) (hL : L ≤ 2048) (C0 : lw_At p s m meth c b L xs) {D : va_G} {cI cJ : ClassId} {ad : Nat → Nat} {ao : Nat} {bd : Nat → Nat} (hK : va_K D pCl (pTy cI cJ) s) (hE : xE (fun q : Nat => s.heap.size ≤ q) s s.heap) (hNc : xN s) (H : Heap) (locs : List Loc) (S : pS) (T : pT) (o : Nat → Int64) (hI : lwI D cI cJ s ad ao bd S o T H) (hR : rel S T) (hS : va_S (fun q : Nat => s.heap.size ≤ q) s.heap H locs) (i : Nat) (hi : i + 4 ≤ L) (x4 : Int32) (hx4 : x4 = nI i) (k n : Nat) (hk : k + 6 ≤ 3102) (hn : n + 36 ≤ 118996) (ls : Array Slot) (hl : lv_has ls 8 [(4, .int x4), (3, .ref ao), (2, .ref (bd 0)), (1, .ref (ad 0)), (0, .ref b)])
    (K : ∀ (H : Heap) (locs : List Loc) (S : pS) (T : pT) (o : Nat → Int64), lwI D cI cJ s ad ao bd S o T H → rel S T → va_S (fun q : Nat => s.heap.size ≤ q) s.heap H locs → ∀ ls : Array Slot, lv_has ls 8 [(4, .int x4), (3, .ref ao), (2, .ref (bd 0)), (1, .ref (ad 0)), (0, .ref b)] → W p l e room_1 s m #[Value.ref b] below meth c H locs (k + 6) (n + 36) (lw_Z below #[Value.ref b] s) (F0 m 2318 ls [])) : W p l e room_1 s m #[Value.ref b] below meth c H locs k n (lw_Z below #[Value.ref b] s) (F0 m 336 ls []) := by
  obtain ⟨hx, hb, hr, hml, hown, hts, hX, hbl, hlocks, hgv⟩ := C0
  have hb : c.code = cL_law := hb
  have hown : s.vm.findClass RL = some m.cls := hown
  have hts : ∀ w ∈ wsL_law, w.before #[Value.ref b] s = true := fun w hw => hts w (wsL_law_in w hw)
  have hbA : ¬ (fun q : Nat => s.heap.size ≤ q) b := Nat.not_le.mpr hbl
  obtain ⟨hi0, hi1, hi2, hi3⟩ := lw_n hL hi hx4
  refine lv_aload_n hx hb dL_law_336 rfl (lv_at hl 3 rfl) ?_
  refine lv_aload_n hx hb dL_law_337 rfl (lv_at hl 4 rfl) ?_
  refine lv_iload hx hb dL_law_338 (lv_at hl 0 rfl) ?_
  refine lv_iconst (v := 1) hx hb dL_law_340 (by decide) ?_
  refine lv_iadd hx hb dL_law_341 ?_
  refine va_sld hx hb hX hbl hbA hS hi1 dL_law_342 ?_
  refine lv_aload_n hx hb dL_law_343 rfl (lv_at hl 4 rfl) ?_
  refine lv_iload hx hb dL_law_344 (lv_at hl 0 rfl) ?_
  refine lv_iconst (v := 2) hx hb dL_law_346 (by decide) ?_
  refine lv_iadd hx hb dL_law_347 ?_
  refine va_sld hx hb hX hbl hbA hS hi2 dL_law_348 ?_
  refine lv_aload_n hx hb dL_law_349 rfl (lv_at hl 1 rfl) ?_
  refine va_calli (vx_runSW (As := [.ref (ad 0), .int (xs (x4 + 1).toNatClampNeg), .int (xs (x4 + 2).toNatClampNeg), .ref ao]) (rest := []) ⟨hx, hb, hml, hown, hts⟩ (met_L_twoTo l hfl D cI cJ ad ao (lwX s bd) S o ((xs (x4 + 1).toNatClampNeg)) ((xs (x4 + 2).toNatClampNeg)) (rel_nx hR)) (vx_cwSW 4 hts gL_law_L_twoTo rfl rfl rfl (by decide +kernel) ⟨Nat.le_of_ble_eq_true rfl, Nat.le_of_ble_eq_true rfl⟩) ⟨fun a U g mk q => ⟨q.1, q.2.1, va_K.moved (u := U) (U := U.calling g mk a) (Vm.Alike.refl U.vm) q.2.2.1, q.2.2.2.1, xE_calling q.2.2.2.2.1, xN_calling q.2.2.2.2.2⟩, fun U hU hW => ⟨rfl, by rw [hU]; exact hI.1, va_K.moved hW.alike hK, hI.2.2.1, xE_narrow (xE_at hE hS hU hW) (fun q h => h.elim), xN_at hNc hW⟩⟩ rfl rfl hl.1 rfl (lv_room (Nat.le_of_ble_eq_true rfl)) dL_law_350 ⟨by show _ ≤ 3102; omega, by show _ ≤ 118996; omega⟩) hS (fun q _ h => h.1) (fun q h => h.1) (fun r u t H1 locs ht hvm hw hB hz hk1 hS => ?_)
  rw [ht] at hB
  have hI := lwI_x hI hB hk1
  generalize H1 = H at hI hS ⊢
  refine lv_istore (lv' := [(5, .int r), (4, .int x4), (3, .ref ao), (2, .ref (bd 0)), (1, .ref (ad 0)), (0, .ref b)]) hx hb dL_law_353 hl (by decide) rfl (fun ls hl => ?_)
  refine lv_aload_n hx hb dL_law_355 rfl (lv_at hl 3 rfl) ?_
  refine lv_aload_n hx hb dL_law_356 rfl (lv_at hl 5 rfl) ?_
  refine lv_iload hx hb dL_law_357 (lv_at hl 1 rfl) ?_
  refine lv_iconst (v := 1) hx hb dL_law_359 (by decide) ?_
  refine lv_iadd hx hb dL_law_360 ?_
  refine va_sld hx hb hX hbl hbA hS hi1 dL_law_361 ?_
  refine lv_aload_n hx hb dL_law_362 rfl (lv_at hl 5 rfl) ?_
  refine lv_iload hx hb dL_law_363 (lv_at hl 1 rfl) ?_
  refine lv_iconst (v := 2) hx hb dL_law_365 (by decide) ?_
  refine lv_iadd hx hb dL_law_366 ?_
  refine va_sld hx hb hX hbl hbA hS hi2 dL_law_367 ?_
  refine va_calli (va_runV (As := [.int (xs (x4 + 1).toNatClampNeg), .int (xs (x4 + 2).toNatClampNeg)]) (rest := []) ⟨hx, hb, hml, hown, hts⟩ (met_X1_twoTo l D cI cJ bd (lwM s ad ao) T ((xs (x4 + 1).toNatClampNeg)) ((xs (x4 + 2).toNatClampNeg)) (rel_kp hR)) (cwV 2 hts gL_law_X1_twoTo rfl rfl rfl (by decide +kernel) ⟨Nat.le_of_ble_eq_true rfl, Nat.le_of_ble_eq_true rfl⟩) ⟨fun a U g mk q => ⟨q.1, b1R_calling q.2.1, q.2.2⟩, va_recv hK hI.2.1 (ci := 1) (q0 := 0) rfl rfl, fun U hU hW => ⟨rfl, b1R_at hI.2.1 hK hU hW, hI.2.2.2⟩⟩ rfl rfl hl.1 rfl (lv_room (Nat.le_of_ble_eq_true rfl)) dL_law_368 ⟨by show _ ≤ 3102; omega, by show _ ≤ 118996; omega⟩) hS (fun q _ h => h.1) (fun q h => h.1) (fun r2 u2 t H1 locs ht hvm hw2 hB hz hk2 hS => ?_)
  obtain ⟨hP1, hD1⟩ := hB
  rw [ht] at hP1
  have hI := lwI_m hI hP1 hD1 hk2
  generalize H1 = H at hI hS ⊢
  have hg := ag_twoTo hR o ((xs (x4 + 1).toNatClampNeg)) ((xs (x4 + 2).toNatClampNeg))
  rw [hw, hw2] at hg
  obtain ⟨hg1, hR, hg3⟩ := hg
  refine lv_istore (lv' := [(6, .int r2), (5, .int r), (4, .int x4), (3, .ref ao), (2, .ref (bd 0)), (1, .ref (ad 0)), (0, .ref b)]) hx hb dL_law_371 hl (by decide) rfl (fun ls hl => ?_)
  refine lv_aload_n hx hb dL_law_373 rfl (lv_at hl 4 rfl) ?_
  refine va_calli (va_runV (As := []) (rest := []) ⟨hx, hb, hml, hown, hts⟩ (met_X1_thrown l D cI cJ bd u2) (cwV 0 hts gL_law_X1_thrown rfl rfl rfl (by decide +kernel) ⟨Nat.le_of_ble_eq_true rfl, Nat.le_of_ble_eq_true rfl⟩) ⟨fun a U g mk q => ⟨q.1, b1R_calling q.2⟩, va_recv hK hI.2.1 (ci := 1) (q0 := 0) rfl rfl, fun U hU hW => ⟨rfl, b1R_at hI.2.1 hK hU hW⟩⟩ rfl rfl hl.1 rfl (lv_room (Nat.le_of_ble_eq_true rfl)) dL_law_374 ⟨by show _ ≤ 3102; omega, by show _ ≤ 118996; omega⟩) hS (fun q _ h => h.elim) (fun q h => h.elim) (fun r3 u3 t H1 locs ht hvm hw3 hB hz hk2 hS => ?_)
  have hI := lwI_k hI hk2
  generalize H1 = H at hI hS ⊢
  have hr3 : r3 = r := by rw [← hw3]; exact hg1
  refine W.widen (k := k + 6) (n := n + 36) (by omega) (by omega) ?_
  refine lv_iload hx hb dL_law_377 (lv_at hl 1 rfl) ?_
  refine lv_icmp_eq (tgt := 384) hx hb dL_law_379 (by decide) (fun cz => ?_) (fun cz => absurd hr3 cz)
  refine lv_iload hx hb dL_law_384 (lv_at hl 1 rfl) ?_
  have kk : W p l e room_1 s m #[Value.ref b] below meth c H locs (k + 6) (n + 36) (lw_Z below #[Value.ref b] s) (F0 m 401 ls []) := by
    refine lv_goto (tgt := 2318) hx hb dL_law_401 (by decide) ?_
    exact K _ _ _ _ _ hI hR hS _ (lv_sub hl [2, 3, 4, 5, 6] rfl)
  refine lv_if_ne (tgt := 401) hx hb dL_law_386 (by decide) (fun cz2 => kk) (fun cz2 => ?_)
  refine lv_aload_n hx hb dL_law_389 rfl (lv_at hl 3 rfl) ?_
  refine lv_iconst (v := 0) hx hb dL_law_390 (by decide) ?_
  refine va_lald hx hb hK hI.1 8 1 rfl rfl in01 dL_law_391 ?_
  refine lv_iload hx hb dL_law_392 (lv_at hl 0 rfl) ?_
  refine lv_i2l hx hb dL_law_394 rfl ?_
  refine W.lcmp hx hb dL_law_395 ?_
  refine lv_if_eq (tgt := 401) hx hb dL_law_396 (by decide) (fun cz3 => kk) (fun cz3 => absurd ((lg_cmp_eq _ _).mpr (hg3 cz2)) cz3)

set_option maxHeartbeats 4000000 in
set_option maxRecDepth 100000 in
theorem lw_c3 {p : Program} {l : Launch} {e : Env} {s : State} {m : MethodId} {below : List Frame} {meth : Method} {c : Code} {b L : Nat} {xs : Nat → Int32} (hfl : l.stackTraces = false) (hL : L ≤ 2048) (C0 : lw_At p s m meth c b L xs) {D : va_G} {cI cJ : ClassId} {ad : Nat → Nat} {ao : Nat} {bd : Nat → Nat} (hK : va_K D pCl (pTy cI cJ) s) (hE : xE (fun q : Nat => s.heap.size ≤ q) s s.heap) (hNc : xN s) (H : Heap) (locs : List Loc) (S : pS) (T : pT) (o : Nat → Int64) (hI : lwI D cI cJ s ad ao bd S o T H) (hR : rel S T) (hS : va_S (fun q : Nat => s.heap.size ≤ q) s.heap H locs) (i : Nat) (hi : i + 4 ≤ L) (x4 : Int32) (hx4 : x4 = nI i) (k n : Nat) (hk : k + 6 ≤ 3102) (hn : n + 36 ≤ 118996) (ls : Array Slot) (hl : lv_has ls 8 [(4, .int x4), (3, .ref ao), (2, .ref (bd 0)), (1, .ref (ad 0)), (0, .ref b)])
    (K : ∀ (H : Heap) (locs : List Loc) (S : pS) (T : pT) (o : Nat → Int64), lwI D cI cJ s ad ao bd S o T H → rel S T → va_S (fun q : Nat => s.heap.size ≤ q) s.heap H locs → ∀ ls : Array Slot, lv_has ls 8 [(4, .int x4), (3, .ref ao), (2, .ref (bd 0)), (1, .ref (ad 0)), (0, .ref b)] → W p l e room_1 s m #[Value.ref b] below meth c H locs (k + 6) (n + 36) (lw_Z below #[Value.ref b] s) (F0 m 2318 ls [])) : W p l e room_1 s m #[Value.ref b] below meth c H locs k n (lw_Z below #[Value.ref b] s) (F0 m 404 ls []) := by
  obtain ⟨hx, hb, hr, hml, hown, hts, hX, hbl, hlocks, hgv⟩ := C0
  have hb : c.code = cL_law := hb
  have hown : s.vm.findClass RL = some m.cls := hown
  have hts : ∀ w ∈ wsL_law, w.before #[Value.ref b] s = true := fun w hw => hts w (wsL_law_in w hw)
  have hbA : ¬ (fun q : Nat => s.heap.size ≤ q) b := Nat.not_le.mpr hbl
  obtain ⟨hi0, hi1, hi2, hi3⟩ := lw_n hL hi hx4
  refine lv_aload_n hx hb dL_law_404 rfl (lv_at hl 3 rfl) ?_
  refine lv_aload_n hx hb dL_law_405 rfl (lv_at hl 4 rfl) ?_
  refine lv_iload hx hb dL_law_406 (lv_at hl 0 rfl) ?_
  refine lv_iconst (v := 1) hx hb dL_law_408 (by decide) ?_
  refine lv_iadd hx hb dL_law_409 ?_
  refine va_sld hx hb hX hbl hbA hS hi1 dL_law_410 ?_
  refine lv_aload_n hx hb dL_law_411 rfl (lv_at hl 4 rfl) ?_
  refine lv_iload hx hb dL_law_412 (lv_at hl 0 rfl) ?_
  refine lv_iconst (v := 2) hx hb dL_law_414 (by decide) ?_
  refine lv_iadd hx hb dL_law_415 ?_
  refine va_sld hx hb hX hbl hbA hS hi2 dL_law_416 ?_
  refine lv_aload_n hx hb dL_law_417 rfl (lv_at hl 4 rfl) ?_
  refine lv_iload hx hb dL_law_418 (lv_at hl 0 rfl) ?_
  refine lv_iconst (v := 3) hx hb dL_law_420 (by decide) ?_
  refine lv_iadd hx hb dL_law_421 ?_
  refine va_sld hx hb hX hbl hbA hS hi3 dL_law_422 ?_
  refine lv_aload_n hx hb dL_law_423 rfl (lv_at hl 1 rfl) ?_
  refine va_calli (vx_runSW (As := [.ref (ad 0), .int (xs (x4 + 1).toNatClampNeg), .int (xs (x4 + 2).toNatClampNeg), .int (xs (x4 + 3).toNatClampNeg), .ref ao]) (rest := []) ⟨hx, hb, hml, hown, hts⟩ (met_L_raise l hfl D cI cJ ad ao (lwX s bd) S o ((xs (x4 + 1).toNatClampNeg)) ((xs (x4 + 2).toNatClampNeg)) ((xs (x4 + 3).toNatClampNeg)) (rel_nx hR)) (vx_cwSW 5 hts gL_law_L_raise rfl rfl rfl (by decide +kernel) ⟨Nat.le_of_ble_eq_true rfl, Nat.le_of_ble_eq_true rfl⟩) ⟨fun a U g mk q => ⟨q.1, q.2.1, va_K.moved (u := U) (U := U.calling g mk a) (Vm.Alike.refl U.vm) q.2.2.1, q.2.2.2.1, xE_calling q.2.2.2.2.1, xN_calling q.2.2.2.2.2⟩, fun U hU hW => ⟨rfl, by rw [hU]; exact hI.1, va_K.moved hW.alike hK, hI.2.2.1, xE_narrow (xE_at hE hS hU hW) (fun q h => h.elim), xN_at hNc hW⟩⟩ rfl rfl hl.1 rfl (lv_room (Nat.le_of_ble_eq_true rfl)) dL_law_424 ⟨by show _ ≤ 3102; omega, by show _ ≤ 118996; omega⟩) hS (fun q _ h => h.1) (fun q h => h.1) (fun r u t H1 locs ht hvm hw hB hz hk1 hS => ?_)
  rw [ht] at hB
  have hI := lwI_x hI hB hk1
  generalize H1 = H at hI hS ⊢
  refine lv_istore (lv' := [(5, .int r), (4, .int x4), (3, .ref ao), (2, .ref (bd 0)), (1, .ref (ad 0)), (0, .ref b)]) hx hb dL_law_427 hl (by decide) rfl (fun ls hl => ?_)
  refine lv_aload_n hx hb dL_law_429 rfl (lv_at hl 3 rfl) ?_
  refine lv_aload_n hx hb dL_law_430 rfl (lv_at hl 5 rfl) ?_
  refine lv_iload hx hb dL_law_431 (lv_at hl 1 rfl) ?_
  refine lv_iconst (v := 1) hx hb dL_law_433 (by decide) ?_
  refine lv_iadd hx hb dL_law_434 ?_
  refine va_sld hx hb hX hbl hbA hS hi1 dL_law_435 ?_
  refine lv_aload_n hx hb dL_law_436 rfl (lv_at hl 5 rfl) ?_
  refine lv_iload hx hb dL_law_437 (lv_at hl 1 rfl) ?_
  refine lv_iconst (v := 2) hx hb dL_law_439 (by decide) ?_
  refine lv_iadd hx hb dL_law_440 ?_
  refine va_sld hx hb hX hbl hbA hS hi2 dL_law_441 ?_
  refine lv_aload_n hx hb dL_law_442 rfl (lv_at hl 5 rfl) ?_
  refine lv_iload hx hb dL_law_443 (lv_at hl 1 rfl) ?_
  refine lv_iconst (v := 3) hx hb dL_law_445 (by decide) ?_
  refine lv_iadd hx hb dL_law_446 ?_
  refine va_sld hx hb hX hbl hbA hS hi3 dL_law_447 ?_
  refine va_calli (va_runV (As := [.int (xs (x4 + 1).toNatClampNeg), .int (xs (x4 + 2).toNatClampNeg), .int (xs (x4 + 3).toNatClampNeg)]) (rest := []) ⟨hx, hb, hml, hown, hts⟩ (met_X1_raise l D cI cJ bd (lwM s ad ao) T ((xs (x4 + 1).toNatClampNeg)) ((xs (x4 + 2).toNatClampNeg)) ((xs (x4 + 3).toNatClampNeg)) (rel_kp hR)) (cwV 3 hts gL_law_X1_raise rfl rfl rfl (by decide +kernel) ⟨Nat.le_of_ble_eq_true rfl, Nat.le_of_ble_eq_true rfl⟩) ⟨fun a U g mk q => ⟨q.1, b1R_calling q.2.1, q.2.2⟩, va_recv hK hI.2.1 (ci := 1) (q0 := 0) rfl rfl, fun U hU hW => ⟨rfl, b1R_at hI.2.1 hK hU hW, hI.2.2.2⟩⟩ rfl rfl hl.1 rfl (lv_room (Nat.le_of_ble_eq_true rfl)) dL_law_448 ⟨by show _ ≤ 3102; omega, by show _ ≤ 118996; omega⟩) hS (fun q _ h => h.1) (fun q h => h.1) (fun r2 u2 t H1 locs ht hvm hw2 hB hz hk2 hS => ?_)
  obtain ⟨hP1, hD1⟩ := hB
  rw [ht] at hP1
  have hI := lwI_m hI hP1 hD1 hk2
  generalize H1 = H at hI hS ⊢
  have hg := ag_raise hR o ((xs (x4 + 1).toNatClampNeg)) ((xs (x4 + 2).toNatClampNeg)) ((xs (x4 + 3).toNatClampNeg))
  rw [hw, hw2] at hg
  obtain ⟨hg1, hR, hg3⟩ := hg
  refine lv_istore (lv' := [(6, .int r2), (5, .int r), (4, .int x4), (3, .ref ao), (2, .ref (bd 0)), (1, .ref (ad 0)), (0, .ref b)]) hx hb dL_law_451 hl (by decide) rfl (fun ls hl => ?_)
  refine lv_aload_n hx hb dL_law_453 rfl (lv_at hl 4 rfl) ?_
  refine va_calli (va_runV (As := []) (rest := []) ⟨hx, hb, hml, hown, hts⟩ (met_X1_thrown l D cI cJ bd u2) (cwV 0 hts gL_law_X1_thrown rfl rfl rfl (by decide +kernel) ⟨Nat.le_of_ble_eq_true rfl, Nat.le_of_ble_eq_true rfl⟩) ⟨fun a U g mk q => ⟨q.1, b1R_calling q.2⟩, va_recv hK hI.2.1 (ci := 1) (q0 := 0) rfl rfl, fun U hU hW => ⟨rfl, b1R_at hI.2.1 hK hU hW⟩⟩ rfl rfl hl.1 rfl (lv_room (Nat.le_of_ble_eq_true rfl)) dL_law_454 ⟨by show _ ≤ 3102; omega, by show _ ≤ 118996; omega⟩) hS (fun q _ h => h.elim) (fun q h => h.elim) (fun r3 u3 t H1 locs ht hvm hw3 hB hz hk2 hS => ?_)
  have hI := lwI_k hI hk2
  generalize H1 = H at hI hS ⊢
  have hr3 : r3 = r := by rw [← hw3]; exact hg1
  refine W.widen (k := k + 6) (n := n + 36) (by omega) (by omega) ?_
  refine lv_iload hx hb dL_law_457 (lv_at hl 1 rfl) ?_
  refine lv_icmp_eq (tgt := 464) hx hb dL_law_459 (by decide) (fun cz => ?_) (fun cz => absurd hr3 cz)
  refine lv_iload hx hb dL_law_464 (lv_at hl 1 rfl) ?_
  have kk : W p l e room_1 s m #[Value.ref b] below meth c H locs (k + 6) (n + 36) (lw_Z below #[Value.ref b] s) (F0 m 481 ls []) := by
    refine lv_goto (tgt := 2318) hx hb dL_law_481 (by decide) ?_
    exact K _ _ _ _ _ hI hR hS _ (lv_sub hl [2, 3, 4, 5, 6] rfl)
  refine lv_if_ne (tgt := 481) hx hb dL_law_466 (by decide) (fun cz2 => kk) (fun cz2 => ?_)
  refine lv_aload_n hx hb dL_law_469 rfl (lv_at hl 3 rfl) ?_
  refine lv_iconst (v := 0) hx hb dL_law_470 (by decide) ?_
  refine va_lald hx hb hK hI.1 8 1 rfl rfl in01 dL_law_471 ?_
  refine lv_iload hx hb dL_law_472 (lv_at hl 0 rfl) ?_
  refine lv_i2l hx hb dL_law_474 rfl ?_
  refine W.lcmp hx hb dL_law_475 ?_
  refine lv_if_eq (tgt := 481) hx hb dL_law_476 (by decide) (fun cz3 => kk) (fun cz3 => absurd ((lg_cmp_eq _ _).mpr (hg3 cz2)) cz3)

set_option maxHeartbeats 4000000 in
set_option maxRecDepth 100000 in
theorem lw_c4 {p : Program} {l : Launch} {e : Env} {s : State} {m : MethodId} {below : List Frame} {meth : Method} {c : Code} {b L : Nat} {xs : Nat → Int32} (hfl : l.stackTraces = false) (hL : L ≤ 2048) (C0 : lw_At p s m meth c b L xs) {D : va_G} {cI cJ : ClassId} {ad : Nat → Nat} {ao : Nat} {bd : Nat → Nat} (hK : va_K D pCl (pTy cI cJ) s) (hE : xE (fun q : Nat => s.heap.size ≤ q) s s.heap) (hNc : xN s) (H : Heap) (locs : List Loc) (S : pS) (T : pT) (o : Nat → Int64) (hI : lwI D cI cJ s ad ao bd S o T H) (hR : rel S T) (hS : va_S (fun q : Nat => s.heap.size ≤ q) s.heap H locs) (i : Nat) (hi : i + 4 ≤ L) (x4 : Int32) (hx4 : x4 = nI i) (k n : Nat) (hk : k + 6 ≤ 3102) (hn : n + 36 ≤ 118996) (ls : Array Slot) (hl : lv_has ls 8 [(4, .int x4), (3, .ref ao), (2, .ref (bd 0)), (1, .ref (ad 0)), (0, .ref b)])
    (K : ∀ (H : Heap) (locs : List Loc) (S : pS) (T : pT) (o : Nat → Int64), lwI D cI cJ s ad ao bd S o T H → rel S T → va_S (fun q : Nat => s.heap.size ≤ q) s.heap H locs → ∀ ls : Array Slot, lv_has ls 8 [(4, .int x4), (3, .ref ao), (2, .ref (bd 0)), (1, .ref (ad 0)), (0, .ref b)] → W p l e room_1 s m #[Value.ref b] below meth c H locs (k + 6) (n + 36) (lw_Z below #[Value.ref b] s) (F0 m 2318 ls [])) : W p l e room_1 s m #[Value.ref b] below meth c H locs k n (lw_Z below #[Value.ref b] s) (F0 m 484 ls []) := by
  obtain ⟨hx, hb, hr, hml, hown, hts, hX, hbl, hlocks, hgv⟩ := C0
  have hb : c.code = cL_law := hb
  have hown : s.vm.findClass RL = some m.cls := hown
  have hts : ∀ w ∈ wsL_law, w.before #[Value.ref b] s = true := fun w hw => hts w (wsL_law_in w hw)
  have hbA : ¬ (fun q : Nat => s.heap.size ≤ q) b := Nat.not_le.mpr hbl
  obtain ⟨hi0, hi1, hi2, hi3⟩ := lw_n hL hi hx4
  refine lv_aload_n hx hb dL_law_484 rfl (lv_at hl 3 rfl) ?_
  refine lv_aload_n hx hb dL_law_485 rfl (lv_at hl 4 rfl) ?_
  refine lv_iload hx hb dL_law_486 (lv_at hl 0 rfl) ?_
  refine lv_iconst (v := 1) hx hb dL_law_488 (by decide) ?_
  refine lv_iadd hx hb dL_law_489 ?_
  refine va_sld hx hb hX hbl hbA hS hi1 dL_law_490 ?_
  refine lv_aload_n hx hb dL_law_491 rfl (lv_at hl 4 rfl) ?_
  refine lv_iload hx hb dL_law_492 (lv_at hl 0 rfl) ?_
  refine lv_iconst (v := 2) hx hb dL_law_494 (by decide) ?_
  refine lv_iadd hx hb dL_law_495 ?_
  refine va_sld hx hb hX hbl hbA hS hi2 dL_law_496 ?_
  refine lv_aload_n hx hb dL_law_497 rfl (lv_at hl 1 rfl) ?_
  refine va_calli (vx_runSW (As := [.ref (ad 0), .int (xs (x4 + 1).toNatClampNeg), .int (xs (x4 + 2).toNatClampNeg), .ref ao]) (rest := []) ⟨hx, hb, hml, hown, hts⟩ (met_L_copy l hfl D cI cJ ad ao (lwX s bd) S o ((xs (x4 + 1).toNatClampNeg)) ((xs (x4 + 2).toNatClampNeg)) (rel_nx hR)) (vx_cwSW 4 hts gL_law_L_copy rfl rfl rfl (by decide +kernel) ⟨Nat.le_of_ble_eq_true rfl, Nat.le_of_ble_eq_true rfl⟩) ⟨fun a U g mk q => ⟨q.1, q.2.1, va_K.moved (u := U) (U := U.calling g mk a) (Vm.Alike.refl U.vm) q.2.2.1, q.2.2.2.1, xE_calling q.2.2.2.2.1, xN_calling q.2.2.2.2.2⟩, fun U hU hW => ⟨rfl, by rw [hU]; exact hI.1, va_K.moved hW.alike hK, hI.2.2.1, xE_narrow (xE_at hE hS hU hW) (fun q h => h.elim), xN_at hNc hW⟩⟩ rfl rfl hl.1 rfl (lv_room (Nat.le_of_ble_eq_true rfl)) dL_law_498 ⟨by show _ ≤ 3102; omega, by show _ ≤ 118996; omega⟩) hS (fun q _ h => h.1) (fun q h => h.1) (fun r u t H1 locs ht hvm hw hB hz hk1 hS => ?_)
  rw [ht] at hB
  have hI := lwI_x hI hB hk1
  generalize H1 = H at hI hS ⊢
  refine lv_istore (lv' := [(5, .int r), (4, .int x4), (3, .ref ao), (2, .ref (bd 0)), (1, .ref (ad 0)), (0, .ref b)]) hx hb dL_law_501 hl (by decide) rfl (fun ls hl => ?_)
  refine lv_aload_n hx hb dL_law_503 rfl (lv_at hl 3 rfl) ?_
  refine lv_aload_n hx hb dL_law_504 rfl (lv_at hl 5 rfl) ?_
  refine lv_iload hx hb dL_law_505 (lv_at hl 1 rfl) ?_
  refine lv_iconst (v := 1) hx hb dL_law_507 (by decide) ?_
  refine lv_iadd hx hb dL_law_508 ?_
  refine va_sld hx hb hX hbl hbA hS hi1 dL_law_509 ?_
  refine lv_aload_n hx hb dL_law_510 rfl (lv_at hl 5 rfl) ?_
  refine lv_iload hx hb dL_law_511 (lv_at hl 1 rfl) ?_
  refine lv_iconst (v := 2) hx hb dL_law_513 (by decide) ?_
  refine lv_iadd hx hb dL_law_514 ?_
  refine va_sld hx hb hX hbl hbA hS hi2 dL_law_515 ?_
  refine va_calli (va_runV (As := [.int (xs (x4 + 1).toNatClampNeg), .int (xs (x4 + 2).toNatClampNeg)]) (rest := []) ⟨hx, hb, hml, hown, hts⟩ (met_X1_copy l D cI cJ bd (lwM s ad ao) T ((xs (x4 + 1).toNatClampNeg)) ((xs (x4 + 2).toNatClampNeg)) (rel_kp hR)) (cwV 2 hts gL_law_X1_copy rfl rfl rfl (by decide +kernel) ⟨Nat.le_of_ble_eq_true rfl, Nat.le_of_ble_eq_true rfl⟩) ⟨fun a U g mk q => ⟨q.1, b1R_calling q.2.1, q.2.2⟩, va_recv hK hI.2.1 (ci := 1) (q0 := 0) rfl rfl, fun U hU hW => ⟨rfl, b1R_at hI.2.1 hK hU hW, hI.2.2.2⟩⟩ rfl rfl hl.1 rfl (lv_room (Nat.le_of_ble_eq_true rfl)) dL_law_516 ⟨by show _ ≤ 3102; omega, by show _ ≤ 118996; omega⟩) hS (fun q _ h => h.1) (fun q h => h.1) (fun r2 u2 t H1 locs ht hvm hw2 hB hz hk2 hS => ?_)
  obtain ⟨hP1, hD1⟩ := hB
  rw [ht] at hP1
  have hI := lwI_m hI hP1 hD1 hk2
  generalize H1 = H at hI hS ⊢
  have hg := ag_copy hR o ((xs (x4 + 1).toNatClampNeg)) ((xs (x4 + 2).toNatClampNeg))
  rw [hw, hw2] at hg
  obtain ⟨hg1, hR, hg3⟩ := hg
  refine lv_istore (lv' := [(6, .int r2), (5, .int r), (4, .int x4), (3, .ref ao), (2, .ref (bd 0)), (1, .ref (ad 0)), (0, .ref b)]) hx hb dL_law_519 hl (by decide) rfl (fun ls hl => ?_)
  refine lv_aload_n hx hb dL_law_521 rfl (lv_at hl 4 rfl) ?_
  refine va_calli (va_runV (As := []) (rest := []) ⟨hx, hb, hml, hown, hts⟩ (met_X1_thrown l D cI cJ bd u2) (cwV 0 hts gL_law_X1_thrown rfl rfl rfl (by decide +kernel) ⟨Nat.le_of_ble_eq_true rfl, Nat.le_of_ble_eq_true rfl⟩) ⟨fun a U g mk q => ⟨q.1, b1R_calling q.2⟩, va_recv hK hI.2.1 (ci := 1) (q0 := 0) rfl rfl, fun U hU hW => ⟨rfl, b1R_at hI.2.1 hK hU hW⟩⟩ rfl rfl hl.1 rfl (lv_room (Nat.le_of_ble_eq_true rfl)) dL_law_522 ⟨by show _ ≤ 3102; omega, by show _ ≤ 118996; omega⟩) hS (fun q _ h => h.elim) (fun q h => h.elim) (fun r3 u3 t H1 locs ht hvm hw3 hB hz hk2 hS => ?_)
  have hI := lwI_k hI hk2
  generalize H1 = H at hI hS ⊢
  have hr3 : r3 = r := by rw [← hw3]; exact hg1
  refine W.widen (k := k + 6) (n := n + 36) (by omega) (by omega) ?_
  refine lv_iload hx hb dL_law_525 (lv_at hl 1 rfl) ?_
  refine lv_icmp_eq (tgt := 532) hx hb dL_law_527 (by decide) (fun cz => ?_) (fun cz => absurd hr3 cz)
  refine lv_iload hx hb dL_law_532 (lv_at hl 1 rfl) ?_
  have kk : W p l e room_1 s m #[Value.ref b] below meth c H locs (k + 6) (n + 36) (lw_Z below #[Value.ref b] s) (F0 m 549 ls []) := by
    refine lv_goto (tgt := 2318) hx hb dL_law_549 (by decide) ?_
    exact K _ _ _ _ _ hI hR hS _ (lv_sub hl [2, 3, 4, 5, 6] rfl)
  refine lv_if_ne (tgt := 549) hx hb dL_law_534 (by decide) (fun cz2 => kk) (fun cz2 => ?_)
  refine lv_aload_n hx hb dL_law_537 rfl (lv_at hl 3 rfl) ?_
  refine lv_iconst (v := 0) hx hb dL_law_538 (by decide) ?_
  refine va_lald hx hb hK hI.1 8 1 rfl rfl in01 dL_law_539 ?_
  refine lv_iload hx hb dL_law_540 (lv_at hl 0 rfl) ?_
  refine lv_i2l hx hb dL_law_542 rfl ?_
  refine W.lcmp hx hb dL_law_543 ?_
  refine lv_if_eq (tgt := 549) hx hb dL_law_544 (by decide) (fun cz3 => kk) (fun cz3 => absurd ((lg_cmp_eq _ _).mpr (hg3 cz2)) cz3)

set_option maxHeartbeats 4000000 in
set_option maxRecDepth 100000 in
theorem lw_c5 {p : Program} {l : Launch} {e : Env} {s : State} {m : MethodId} {below : List Frame} {meth : Method} {c : Code} {b L : Nat} {xs : Nat → Int32} (hfl : l.stackTraces = false) (hL : L ≤ 2048) (C0 : lw_At p s m meth c b L xs) {D : va_G} {cI cJ : ClassId} {ad : Nat → Nat} {ao : Nat} {bd : Nat → Nat} (hK : va_K D pCl (pTy cI cJ) s) (hE : xE (fun q : Nat => s.heap.size ≤ q) s s.heap) (hNc : xN s) (H : Heap) (locs : List Loc) (S : pS) (T : pT) (o : Nat → Int64) (hI : lwI D cI cJ s ad ao bd S o T H) (hR : rel S T) (hS : va_S (fun q : Nat => s.heap.size ≤ q) s.heap H locs) (i : Nat) (hi : i + 4 ≤ L) (x4 : Int32) (hx4 : x4 = nI i) (k n : Nat) (hk : k + 6 ≤ 3102) (hn : n + 36 ≤ 118996) (ls : Array Slot) (hl : lv_has ls 8 [(4, .int x4), (3, .ref ao), (2, .ref (bd 0)), (1, .ref (ad 0)), (0, .ref b)])
    (K : ∀ (H : Heap) (locs : List Loc) (S : pS) (T : pT) (o : Nat → Int64), lwI D cI cJ s ad ao bd S o T H → rel S T → va_S (fun q : Nat => s.heap.size ≤ q) s.heap H locs → ∀ ls : Array Slot, lv_has ls 8 [(4, .int x4), (3, .ref ao), (2, .ref (bd 0)), (1, .ref (ad 0)), (0, .ref b)] → W p l e room_1 s m #[Value.ref b] below meth c H locs (k + 6) (n + 36) (lw_Z below #[Value.ref b] s) (F0 m 2318 ls [])) : W p l e room_1 s m #[Value.ref b] below meth c H locs k n (lw_Z below #[Value.ref b] s) (F0 m 552 ls []) := by
  obtain ⟨hx, hb, hr, hml, hown, hts, hX, hbl, hlocks, hgv⟩ := C0
  have hb : c.code = cL_law := hb
  have hown : s.vm.findClass RL = some m.cls := hown
  have hts : ∀ w ∈ wsL_law, w.before #[Value.ref b] s = true := fun w hw => hts w (wsL_law_in w hw)
  have hbA : ¬ (fun q : Nat => s.heap.size ≤ q) b := Nat.not_le.mpr hbl
  obtain ⟨hi0, hi1, hi2, hi3⟩ := lw_n hL hi hx4
  refine lv_aload_n hx hb dL_law_552 rfl (lv_at hl 3 rfl) ?_
  refine lv_aload_n hx hb dL_law_553 rfl (lv_at hl 1 rfl) ?_
  refine va_calli (vx_runSW (As := [.ref (ad 0), .ref ao]) (rest := []) ⟨hx, hb, hml, hown, hts⟩ (met_L_undo l hfl D cI cJ ad ao (lwX s bd) S o (rel_nx hR) (rel_ks hR)) (vx_cwSW 2 hts gL_law_L_undo rfl rfl rfl (by decide +kernel) ⟨Nat.le_of_ble_eq_true rfl, Nat.le_of_ble_eq_true rfl⟩) ⟨fun a U g mk q => ⟨q.1, q.2.1, va_K.moved (u := U) (U := U.calling g mk a) (Vm.Alike.refl U.vm) q.2.2.1, q.2.2.2.1, xE_calling q.2.2.2.2.1, xN_calling q.2.2.2.2.2⟩, fun U hU hW => ⟨rfl, by rw [hU]; exact hI.1, va_K.moved hW.alike hK, hI.2.2.1, xE_narrow (xE_at hE hS hU hW) (fun q h => h.elim), xN_at hNc hW⟩⟩ rfl rfl hl.1 rfl (lv_room (Nat.le_of_ble_eq_true rfl)) dL_law_554 ⟨by show _ ≤ 3102; omega, by show _ ≤ 118996; omega⟩) hS (fun q _ h => h.1) (fun q h => h.1) (fun r u t H1 locs ht hvm hw hB hz hk1 hS => ?_)
  rw [ht] at hB
  have hI := lwI_x hI hB hk1
  generalize H1 = H at hI hS ⊢
  refine lv_istore (lv' := [(5, .int r), (4, .int x4), (3, .ref ao), (2, .ref (bd 0)), (1, .ref (ad 0)), (0, .ref b)]) hx hb dL_law_557 hl (by decide) rfl (fun ls hl => ?_)
  refine lv_aload_n hx hb dL_law_559 rfl (lv_at hl 3 rfl) ?_
  refine va_calli (va_runV (As := []) (rest := []) ⟨hx, hb, hml, hown, hts⟩ (met_X1_undo l D cI cJ bd (lwM s ad ao) T (rel_kp hR) (rel_kt hR)) (cwV 0 hts gL_law_X1_undo rfl rfl rfl (by decide +kernel) ⟨Nat.le_of_ble_eq_true rfl, Nat.le_of_ble_eq_true rfl⟩) ⟨fun a U g mk q => ⟨q.1, b1R_calling q.2.1, q.2.2⟩, va_recv hK hI.2.1 (ci := 1) (q0 := 0) rfl rfl, fun U hU hW => ⟨rfl, b1R_at hI.2.1 hK hU hW, hI.2.2.2⟩⟩ rfl rfl hl.1 rfl (lv_room (Nat.le_of_ble_eq_true rfl)) dL_law_560 ⟨by show _ ≤ 3102; omega, by show _ ≤ 118996; omega⟩) hS (fun q _ h => h.1) (fun q h => h.1) (fun r2 u2 t H1 locs ht hvm hw2 hB hz hk2 hS => ?_)
  obtain ⟨hP1, hD1⟩ := hB
  rw [ht] at hP1
  have hI := lwI_m hI hP1 hD1 hk2
  generalize H1 = H at hI hS ⊢
  have hg := ag_undo hR o
  rw [hw, hw2] at hg
  obtain ⟨hg1, hR, hg3⟩ := hg
  refine lv_istore (lv' := [(6, .int r2), (5, .int r), (4, .int x4), (3, .ref ao), (2, .ref (bd 0)), (1, .ref (ad 0)), (0, .ref b)]) hx hb dL_law_563 hl (by decide) rfl (fun ls hl => ?_)
  refine lv_aload_n hx hb dL_law_565 rfl (lv_at hl 4 rfl) ?_
  refine va_calli (va_runV (As := []) (rest := []) ⟨hx, hb, hml, hown, hts⟩ (met_X1_thrown l D cI cJ bd u2) (cwV 0 hts gL_law_X1_thrown rfl rfl rfl (by decide +kernel) ⟨Nat.le_of_ble_eq_true rfl, Nat.le_of_ble_eq_true rfl⟩) ⟨fun a U g mk q => ⟨q.1, b1R_calling q.2⟩, va_recv hK hI.2.1 (ci := 1) (q0 := 0) rfl rfl, fun U hU hW => ⟨rfl, b1R_at hI.2.1 hK hU hW⟩⟩ rfl rfl hl.1 rfl (lv_room (Nat.le_of_ble_eq_true rfl)) dL_law_566 ⟨by show _ ≤ 3102; omega, by show _ ≤ 118996; omega⟩) hS (fun q _ h => h.elim) (fun q h => h.elim) (fun r3 u3 t H1 locs ht hvm hw3 hB hz hk2 hS => ?_)
  have hI := lwI_k hI hk2
  generalize H1 = H at hI hS ⊢
  have hr3 : r3 = r := by rw [← hw3]; exact hg1
  refine W.widen (k := k + 6) (n := n + 36) (by omega) (by omega) ?_
  refine lv_iload hx hb dL_law_569 (lv_at hl 1 rfl) ?_
  refine lv_icmp_eq (tgt := 576) hx hb dL_law_571 (by decide) (fun cz => ?_) (fun cz => absurd hr3 cz)
  refine lv_iload hx hb dL_law_576 (lv_at hl 1 rfl) ?_
  have kk : W p l e room_1 s m #[Value.ref b] below meth c H locs (k + 6) (n + 36) (lw_Z below #[Value.ref b] s) (F0 m 593 ls []) := by
    refine lv_goto (tgt := 2318) hx hb dL_law_593 (by decide) ?_
    exact K _ _ _ _ _ hI hR hS _ (lv_sub hl [2, 3, 4, 5, 6] rfl)
  refine lv_if_ne (tgt := 593) hx hb dL_law_578 (by decide) (fun cz2 => kk) (fun cz2 => ?_)
  refine lv_aload_n hx hb dL_law_581 rfl (lv_at hl 3 rfl) ?_
  refine lv_iconst (v := 0) hx hb dL_law_582 (by decide) ?_
  refine va_lald hx hb hK hI.1 8 1 rfl rfl in01 dL_law_583 ?_
  refine lv_iload hx hb dL_law_584 (lv_at hl 0 rfl) ?_
  refine lv_i2l hx hb dL_law_586 rfl ?_
  refine W.lcmp hx hb dL_law_587 ?_
  refine lv_if_eq (tgt := 593) hx hb dL_law_588 (by decide) (fun cz3 => kk) (fun cz3 => absurd ((lg_cmp_eq _ _).mpr (hg3 cz2)) cz3)

set_option maxHeartbeats 4000000 in
set_option maxRecDepth 100000 in
theorem lw_c6 {p : Program} {l : Launch} {e : Env} {s : State} {m : MethodId} {below : List Frame} {meth : Method} {c : Code} {b L : Nat} {xs : Nat → Int32} (hfl : l.stackTraces = false) (hL : L ≤ 2048) (C0 : lw_At p s m meth c b L xs) {D : va_G} {cI cJ : ClassId} {ad : Nat → Nat} {ao : Nat} {bd : Nat → Nat} (hK : va_K D pCl (pTy cI cJ) s) (hE : xE (fun q : Nat => s.heap.size ≤ q) s s.heap) (hNc : xN s) (H : Heap) (locs : List Loc) (S : pS) (T : pT) (o : Nat → Int64) (hI : lwI D cI cJ s ad ao bd S o T H) (hR : rel S T) (hS : va_S (fun q : Nat => s.heap.size ≤ q) s.heap H locs) (i : Nat) (hi : i + 4 ≤ L) (x4 : Int32) (hx4 : x4 = nI i) (k n : Nat) (hk : k + 6 ≤ 3102) (hn : n + 36 ≤ 118996) (ls : Array Slot) (hl : lv_has ls 8 [(4, .int x4), (3, .ref ao), (2, .ref (bd 0)), (1, .ref (ad 0)), (0, .ref b)])
    (K : ∀ (H : Heap) (locs : List Loc) (S : pS) (T : pT) (o : Nat → Int64), lwI D cI cJ s ad ao bd S o T H → rel S T → va_S (fun q : Nat => s.heap.size ≤ q) s.heap H locs → ∀ ls : Array Slot, lv_has ls 8 [(4, .int x4), (3, .ref ao), (2, .ref (bd 0)), (1, .ref (ad 0)), (0, .ref b)] → W p l e room_1 s m #[Value.ref b] below meth c H locs (k + 6) (n + 36) (lw_Z below #[Value.ref b] s) (F0 m 2318 ls [])) : W p l e room_1 s m #[Value.ref b] below meth c H locs k n (lw_Z below #[Value.ref b] s) (F0 m 596 ls []) := by
  obtain ⟨hx, hb, hr, hml, hown, hts, hX, hbl, hlocks, hgv⟩ := C0
  have hb : c.code = cL_law := hb
  have hown : s.vm.findClass RL = some m.cls := hown
  have hts : ∀ w ∈ wsL_law, w.before #[Value.ref b] s = true := fun w hw => hts w (wsL_law_in w hw)
  have hbA : ¬ (fun q : Nat => s.heap.size ≤ q) b := Nat.not_le.mpr hbl
  obtain ⟨hi0, hi1, hi2, hi3⟩ := lw_n hL hi hx4
  refine lv_aload_n hx hb dL_law_596 rfl (lv_at hl 3 rfl) ?_
  refine va_calli (va_runV (As := []) (rest := []) ⟨hx, hb, hml, hown, hts⟩ (met_X0_kept l D cI cJ ad S) (cwV 0 hts gL_law_X0_kept rfl rfl rfl (by decide +kernel) ⟨Nat.le_of_ble_eq_true rfl, Nat.le_of_ble_eq_true rfl⟩) ⟨fun a U g mk q => ⟨q.1, b0R_calling q.2⟩, va_recv hK (hI.1.sub (ws' := pmW cI cJ ad S) [0, 1, 2, 3, 4, 5, 6, 7] rfl) (ci := 0) (q0 := 0) rfl rfl, fun U hU hW => ⟨rfl, b0R_at (hI.1.sub (ws' := pmW cI cJ ad S) [0, 1, 2, 3, 4, 5, 6, 7] rfl) hK hU hW⟩⟩ rfl rfl hl.1 rfl (lv_room (Nat.le_of_ble_eq_true rfl)) dL_law_597 ⟨by show _ ≤ 3102; omega, by show _ ≤ 118996; omega⟩) hS (fun q _ h => h.elim) (fun q h => h.elim) (fun r u t H1 locs ht hvm hw hB hz hk2 hS => ?_)
  have hI := lwI_k hI hk2
  generalize H1 = H at hI hS ⊢
  refine lv_aload_n hx hb dL_law_600 rfl (lv_at hl 2 rfl) ?_
  refine va_calli (va_runV (As := []) (rest := [.int r]) ⟨hx, hb, hml, hown, hts⟩ (met_X1_kept l D cI cJ bd (lwM s ad ao) T) (cwV 0 hts gL_law_X1_kept rfl rfl rfl (by decide +kernel) ⟨Nat.le_of_ble_eq_true rfl, Nat.le_of_ble_eq_true rfl⟩) ⟨fun a U g mk q => ⟨q.1, b1R_calling q.2.1, q.2.2⟩, va_recv hK hI.2.1 (ci := 1) (q0 := 0) rfl rfl, fun U hU hW => ⟨rfl, b1R_at hI.2.1 hK hU hW, hI.2.2.2⟩⟩ rfl rfl hl.1 rfl (lv_room (Nat.le_of_ble_eq_true rfl)) dL_law_601 ⟨by show _ ≤ 3102; omega, by show _ ≤ 118996; omega⟩) hS (fun q _ h => h.1) (fun q h => h.1) (fun r2 u2 t H1 locs ht hvm hw2 hB hz hk2 hS => ?_)
  obtain ⟨hP1, hD1⟩ := hB
  rw [ht] at hP1
  have hI := lwI_m hI hP1 hD1 hk2
  generalize H1 = H at hI hS ⊢
  have hg : r = r2 ∧ rel S u2 := by
    cases hw2
    exact ⟨by rw [← hw]; exact rel_cn hR, hR⟩
  refine lv_icmp_eq (tgt := 2318) hx hb dL_law_604 (by decide) (fun cz => ?_) (fun cz => absurd hg.1 cz)
  refine W.widen (k := k + 6) (n := n + 36) (by omega) (by omega) ?_
  exact K _ _ _ _ _ hI hg.2 hS _ hl

set_option maxHeartbeats 4000000 in
set_option maxRecDepth 100000 in
theorem lw_c7 {p : Program} {l : Launch} {e : Env} {s : State} {m : MethodId} {below : List Frame} {meth : Method} {c : Code} {b L : Nat} {xs : Nat → Int32} (hfl : l.stackTraces = false) (hL : L ≤ 2048) (C0 : lw_At p s m meth c b L xs) {D : va_G} {cI cJ : ClassId} {ad : Nat → Nat} {ao : Nat} {bd : Nat → Nat} (hK : va_K D pCl (pTy cI cJ) s) (hE : xE (fun q : Nat => s.heap.size ≤ q) s s.heap) (hNc : xN s) (H : Heap) (locs : List Loc) (S : pS) (T : pT) (o : Nat → Int64) (hI : lwI D cI cJ s ad ao bd S o T H) (hR : rel S T) (hS : va_S (fun q : Nat => s.heap.size ≤ q) s.heap H locs) (i : Nat) (hi : i + 4 ≤ L) (x4 : Int32) (hx4 : x4 = nI i) (k n : Nat) (hk : k + 6 ≤ 3102) (hn : n + 36 ≤ 118996) (ls : Array Slot) (hl : lv_has ls 8 [(4, .int x4), (3, .ref ao), (2, .ref (bd 0)), (1, .ref (ad 0)), (0, .ref b)])
    (K : ∀ (H : Heap) (locs : List Loc) (S : pS) (T : pT) (o : Nat → Int64), lwI D cI cJ s ad ao bd S o T H → rel S T → va_S (fun q : Nat => s.heap.size ≤ q) s.heap H locs → ∀ ls : Array Slot, lv_has ls 8 [(4, .int x4), (3, .ref ao), (2, .ref (bd 0)), (1, .ref (ad 0)), (0, .ref b)] → W p l e room_1 s m #[Value.ref b] below meth c H locs (k + 6) (n + 36) (lw_Z below #[Value.ref b] s) (F0 m 2318 ls [])) : W p l e room_1 s m #[Value.ref b] below meth c H locs k n (lw_Z below #[Value.ref b] s) (F0 m 609 ls []) := by
  obtain ⟨hx, hb, hr, hml, hown, hts, hX, hbl, hlocks, hgv⟩ := C0
  have hb : c.code = cL_law := hb
  have hown : s.vm.findClass RL = some m.cls := hown
  have hts : ∀ w ∈ wsL_law, w.before #[Value.ref b] s = true := fun w hw => hts w (wsL_law_in w hw)
  have hbA : ¬ (fun q : Nat => s.heap.size ≤ q) b := Nat.not_le.mpr hbl
  obtain ⟨hi0, hi1, hi2, hi3⟩ := lw_n hL hi hx4
  refine lv_aload_n hx hb dL_law_609 rfl (lv_at hl 3 rfl) ?_
  refine lv_aload_n hx hb dL_law_610 rfl (lv_at hl 4 rfl) ?_
  refine lv_iload hx hb dL_law_611 (lv_at hl 0 rfl) ?_
  refine lv_iconst (v := 1) hx hb dL_law_613 (by decide) ?_
  refine lv_iadd hx hb dL_law_614 ?_
  refine va_sld hx hb hX hbl hbA hS hi1 dL_law_615 ?_
  refine lv_aload_n hx hb dL_law_616 rfl (lv_at hl 1 rfl) ?_
  refine va_calli (vx_runSW (As := [.ref (ad 0), .int (xs (x4 + 1).toNatClampNeg), .ref ao]) (rest := []) ⟨hx, hb, hml, hown, hts⟩ (met_L_sign l hfl D cI cJ ad ao (lwX s bd) S o ((xs (x4 + 1).toNatClampNeg))) (vx_cwSW 3 hts gL_law_L_sign rfl rfl rfl (by decide +kernel) ⟨Nat.le_of_ble_eq_true rfl, Nat.le_of_ble_eq_true rfl⟩) ⟨fun a U g mk q => ⟨q.1, q.2.1, va_K.moved (u := U) (U := U.calling g mk a) (Vm.Alike.refl U.vm) q.2.2.1, q.2.2.2.1, xE_calling q.2.2.2.2.1, xN_calling q.2.2.2.2.2⟩, fun U hU hW => ⟨rfl, by rw [hU]; exact hI.1, va_K.moved hW.alike hK, hI.2.2.1, xE_narrow (xE_at hE hS hU hW) (fun q h => h.elim), xN_at hNc hW⟩⟩ rfl rfl hl.1 rfl (lv_room (Nat.le_of_ble_eq_true rfl)) dL_law_617 ⟨by show _ ≤ 3102; omega, by show _ ≤ 118996; omega⟩) hS (fun q _ h => h.1) (fun q h => h.1) (fun r u t H1 locs ht hvm hw hB hz hk1 hS => ?_)
  rw [ht] at hB
  have hI := lwI_x hI hB hk1
  generalize H1 = H at hI hS ⊢
  refine lv_istore (lv' := [(5, .int r), (4, .int x4), (3, .ref ao), (2, .ref (bd 0)), (1, .ref (ad 0)), (0, .ref b)]) hx hb dL_law_620 hl (by decide) rfl (fun ls hl => ?_)
  refine lv_aload_n hx hb dL_law_622 rfl (lv_at hl 3 rfl) ?_
  refine lv_aload_n hx hb dL_law_623 rfl (lv_at hl 5 rfl) ?_
  refine lv_iload hx hb dL_law_624 (lv_at hl 1 rfl) ?_
  refine lv_iconst (v := 1) hx hb dL_law_626 (by decide) ?_
  refine lv_iadd hx hb dL_law_627 ?_
  refine va_sld hx hb hX hbl hbA hS hi1 dL_law_628 ?_
  refine va_calli (va_runV (As := [.int (xs (x4 + 1).toNatClampNeg)]) (rest := []) ⟨hx, hb, hml, hown, hts⟩ (met_X1_sign l D cI cJ bd (lwM s ad ao) T ((xs (x4 + 1).toNatClampNeg))) (cwV 1 hts gL_law_X1_sign rfl rfl rfl (by decide +kernel) ⟨Nat.le_of_ble_eq_true rfl, Nat.le_of_ble_eq_true rfl⟩) ⟨fun a U g mk q => ⟨q.1, b1R_calling q.2.1, q.2.2⟩, va_recv hK hI.2.1 (ci := 1) (q0 := 0) rfl rfl, fun U hU hW => ⟨rfl, b1R_at hI.2.1 hK hU hW, hI.2.2.2⟩⟩ rfl rfl hl.1 rfl (lv_room (Nat.le_of_ble_eq_true rfl)) dL_law_629 ⟨by show _ ≤ 3102; omega, by show _ ≤ 118996; omega⟩) hS (fun q _ h => h.1) (fun q h => h.1) (fun r2 u2 t H1 locs ht hvm hw2 hB hz hk2 hS => ?_)
  obtain ⟨hP1, hD1⟩ := hB
  rw [ht] at hP1
  have hI := lwI_m hI hP1 hD1 hk2
  generalize H1 = H at hI hS ⊢
  have hg := ag_sign hR o ((xs (x4 + 1).toNatClampNeg))
  rw [hw, hw2] at hg
  obtain ⟨hg1, hR, hg3⟩ := hg
  refine lv_istore (lv' := [(6, .int r2), (5, .int r), (4, .int x4), (3, .ref ao), (2, .ref (bd 0)), (1, .ref (ad 0)), (0, .ref b)]) hx hb dL_law_632 hl (by decide) rfl (fun ls hl => ?_)
  refine lv_aload_n hx hb dL_law_634 rfl (lv_at hl 4 rfl) ?_
  refine va_calli (va_runV (As := []) (rest := []) ⟨hx, hb, hml, hown, hts⟩ (met_X1_thrown l D cI cJ bd u2) (cwV 0 hts gL_law_X1_thrown rfl rfl rfl (by decide +kernel) ⟨Nat.le_of_ble_eq_true rfl, Nat.le_of_ble_eq_true rfl⟩) ⟨fun a U g mk q => ⟨q.1, b1R_calling q.2⟩, va_recv hK hI.2.1 (ci := 1) (q0 := 0) rfl rfl, fun U hU hW => ⟨rfl, b1R_at hI.2.1 hK hU hW⟩⟩ rfl rfl hl.1 rfl (lv_room (Nat.le_of_ble_eq_true rfl)) dL_law_635 ⟨by show _ ≤ 3102; omega, by show _ ≤ 118996; omega⟩) hS (fun q _ h => h.elim) (fun q h => h.elim) (fun r3 u3 t H1 locs ht hvm hw3 hB hz hk2 hS => ?_)
  have hI := lwI_k hI hk2
  generalize H1 = H at hI hS ⊢
  have hr3 : r3 = r := by rw [← hw3]; exact hg1
  refine W.widen (k := k + 6) (n := n + 36) (by omega) (by omega) ?_
  refine lv_iload hx hb dL_law_638 (lv_at hl 1 rfl) ?_
  refine lv_icmp_eq (tgt := 645) hx hb dL_law_640 (by decide) (fun cz => ?_) (fun cz => absurd hr3 cz)
  refine lv_iload hx hb dL_law_645 (lv_at hl 1 rfl) ?_
  have kk : W p l e room_1 s m #[Value.ref b] below meth c H locs (k + 6) (n + 36) (lw_Z below #[Value.ref b] s) (F0 m 662 ls []) := by
    refine lv_goto (tgt := 2318) hx hb dL_law_662 (by decide) ?_
    exact K _ _ _ _ _ hI hR hS _ (lv_sub hl [2, 3, 4, 5, 6] rfl)
  refine lv_if_ne (tgt := 662) hx hb dL_law_647 (by decide) (fun cz2 => kk) (fun cz2 => ?_)
  refine lv_aload_n hx hb dL_law_650 rfl (lv_at hl 3 rfl) ?_
  refine lv_iconst (v := 0) hx hb dL_law_651 (by decide) ?_
  refine va_lald hx hb hK hI.1 8 1 rfl rfl in01 dL_law_652 ?_
  refine lv_iload hx hb dL_law_653 (lv_at hl 0 rfl) ?_
  refine lv_i2l hx hb dL_law_655 rfl ?_
  refine W.lcmp hx hb dL_law_656 ?_
  refine lv_if_eq (tgt := 662) hx hb dL_law_657 (by decide) (fun cz3 => kk) (fun cz3 => absurd ((lg_cmp_eq _ _).mpr (hg3 cz2)) cz3)

set_option maxHeartbeats 4000000 in
set_option maxRecDepth 100000 in
theorem lw_c8 {p : Program} {l : Launch} {e : Env} {s : State} {m : MethodId} {below : List Frame} {meth : Method} {c : Code} {b L : Nat} {xs : Nat → Int32} (hfl : l.stackTraces = false) (hL : L ≤ 2048) (C0 : lw_At p s m meth c b L xs) {D : va_G} {cI cJ : ClassId} {ad : Nat → Nat} {ao : Nat} {bd : Nat → Nat} (hK : va_K D pCl (pTy cI cJ) s) (hE : xE (fun q : Nat => s.heap.size ≤ q) s s.heap) (hNc : xN s) (H : Heap) (locs : List Loc) (S : pS) (T : pT) (o : Nat → Int64) (hI : lwI D cI cJ s ad ao bd S o T H) (hR : rel S T) (hS : va_S (fun q : Nat => s.heap.size ≤ q) s.heap H locs) (i : Nat) (hi : i + 4 ≤ L) (x4 : Int32) (hx4 : x4 = nI i) (k n : Nat) (hk : k + 6 ≤ 3102) (hn : n + 36 ≤ 118996) (ls : Array Slot) (hl : lv_has ls 8 [(4, .int x4), (3, .ref ao), (2, .ref (bd 0)), (1, .ref (ad 0)), (0, .ref b)])
    (K : ∀ (H : Heap) (locs : List Loc) (S : pS) (T : pT) (o : Nat → Int64), lwI D cI cJ s ad ao bd S o T H → rel S T → va_S (fun q : Nat => s.heap.size ≤ q) s.heap H locs → ∀ ls : Array Slot, lv_has ls 8 [(4, .int x4), (3, .ref ao), (2, .ref (bd 0)), (1, .ref (ad 0)), (0, .ref b)] → W p l e room_1 s m #[Value.ref b] below meth c H locs (k + 6) (n + 36) (lw_Z below #[Value.ref b] s) (F0 m 2318 ls [])) : W p l e room_1 s m #[Value.ref b] below meth c H locs k n (lw_Z below #[Value.ref b] s) (F0 m 665 ls []) := by
  obtain ⟨hx, hb, hr, hml, hown, hts, hX, hbl, hlocks, hgv⟩ := C0
  have hb : c.code = cL_law := hb
  have hown : s.vm.findClass RL = some m.cls := hown
  have hts : ∀ w ∈ wsL_law, w.before #[Value.ref b] s = true := fun w hw => hts w (wsL_law_in w hw)
  have hbA : ¬ (fun q : Nat => s.heap.size ≤ q) b := Nat.not_le.mpr hbl
  obtain ⟨hi0, hi1, hi2, hi3⟩ := lw_n hL hi hx4
  refine lv_aload_n hx hb dL_law_665 rfl (lv_at hl 3 rfl) ?_
  refine lv_aload_n hx hb dL_law_666 rfl (lv_at hl 4 rfl) ?_
  refine lv_iload hx hb dL_law_667 (lv_at hl 0 rfl) ?_
  refine lv_iconst (v := 1) hx hb dL_law_669 (by decide) ?_
  refine lv_iadd hx hb dL_law_670 ?_
  refine va_sld hx hb hX hbl hbA hS hi1 dL_law_671 ?_
  refine lv_aload_n hx hb dL_law_672 rfl (lv_at hl 1 rfl) ?_
  refine va_calli (vx_runSW (As := [.ref (ad 0), .int (xs (x4 + 1).toNatClampNeg), .ref ao]) (rest := []) ⟨hx, hb, hml, hown, hts⟩ (met_L_odd l hfl D cI cJ ad ao (lwX s bd) S o ((xs (x4 + 1).toNatClampNeg))) (vx_cwSW 3 hts gL_law_L_odd rfl rfl rfl (by decide +kernel) ⟨Nat.le_of_ble_eq_true rfl, Nat.le_of_ble_eq_true rfl⟩) ⟨fun a U g mk q => ⟨q.1, q.2.1, va_K.moved (u := U) (U := U.calling g mk a) (Vm.Alike.refl U.vm) q.2.2.1, q.2.2.2.1, xE_calling q.2.2.2.2.1, xN_calling q.2.2.2.2.2⟩, fun U hU hW => ⟨rfl, by rw [hU]; exact hI.1, va_K.moved hW.alike hK, hI.2.2.1, xE_narrow (xE_at hE hS hU hW) (fun q h => h.elim), xN_at hNc hW⟩⟩ rfl rfl hl.1 rfl (lv_room (Nat.le_of_ble_eq_true rfl)) dL_law_673 ⟨by show _ ≤ 3102; omega, by show _ ≤ 118996; omega⟩) hS (fun q _ h => h.1) (fun q h => h.1) (fun r u t H1 locs ht hvm hw hB hz hk1 hS => ?_)
  rw [ht] at hB
  have hI := lwI_x hI hB hk1
  generalize H1 = H at hI hS ⊢
  refine lv_istore (lv' := [(5, .int r), (4, .int x4), (3, .ref ao), (2, .ref (bd 0)), (1, .ref (ad 0)), (0, .ref b)]) hx hb dL_law_676 hl (by decide) rfl (fun ls hl => ?_)
  refine lv_aload_n hx hb dL_law_678 rfl (lv_at hl 3 rfl) ?_
  refine lv_aload_n hx hb dL_law_679 rfl (lv_at hl 5 rfl) ?_
  refine lv_iload hx hb dL_law_680 (lv_at hl 1 rfl) ?_
  refine lv_iconst (v := 1) hx hb dL_law_682 (by decide) ?_
  refine lv_iadd hx hb dL_law_683 ?_
  refine va_sld hx hb hX hbl hbA hS hi1 dL_law_684 ?_
  refine va_calll (va_runV (As := [.int (xs (x4 + 1).toNatClampNeg)]) (rest := []) ⟨hx, hb, hml, hown, hts⟩ (met_X1_odd l D cI cJ bd (lwM s ad ao) T ((xs (x4 + 1).toNatClampNeg))) (cwV 1 hts gL_law_X1_odd rfl rfl rfl (by decide +kernel) ⟨Nat.le_of_ble_eq_true rfl, Nat.le_of_ble_eq_true rfl⟩) ⟨fun a U g mk q => ⟨q.1, b1R_calling q.2.1, q.2.2⟩, va_recv hK hI.2.1 (ci := 1) (q0 := 0) rfl rfl, fun U hU hW => ⟨rfl, b1R_at hI.2.1 hK hU hW, hI.2.2.2⟩⟩ rfl rfl hl.1 rfl (lv_room (Nat.le_of_ble_eq_true rfl)) dL_law_685 ⟨by show _ ≤ 3102; omega, by show _ ≤ 118996; omega⟩) hS (fun q _ h => h.1) (fun q h => h.1) (fun r2 u2 t H1 locs ht hvm hw2 hB hz hk2 hS => ?_)
  obtain ⟨hP1, hD1⟩ := hB
  rw [ht] at hP1
  have hI := lwI_m hI hP1 hD1 hk2
  generalize H1 = H at hI hS ⊢
  have hg := ag_odd hR o ((xs (x4 + 1).toNatClampNeg))
  rw [hw, hw2] at hg
  obtain ⟨hg1, hR, hg3⟩ := hg
  refine lv_lstore (lv' := [(6, .long r2), (5, .int r), (4, .int x4), (3, .ref ao), (2, .ref (bd 0)), (1, .ref (ad 0)), (0, .ref b)]) hx hb dL_law_688 hl (by decide) rfl (fun ls hl => ?_)
  refine lv_aload_n hx hb dL_law_690 rfl (lv_at hl 4 rfl) ?_
  refine va_calli (va_runV (As := []) (rest := []) ⟨hx, hb, hml, hown, hts⟩ (met_X1_thrown l D cI cJ bd u2) (cwV 0 hts gL_law_X1_thrown rfl rfl rfl (by decide +kernel) ⟨Nat.le_of_ble_eq_true rfl, Nat.le_of_ble_eq_true rfl⟩) ⟨fun a U g mk q => ⟨q.1, b1R_calling q.2⟩, va_recv hK hI.2.1 (ci := 1) (q0 := 0) rfl rfl, fun U hU hW => ⟨rfl, b1R_at hI.2.1 hK hU hW⟩⟩ rfl rfl hl.1 rfl (lv_room (Nat.le_of_ble_eq_true rfl)) dL_law_691 ⟨by show _ ≤ 3102; omega, by show _ ≤ 118996; omega⟩) hS (fun q _ h => h.elim) (fun q h => h.elim) (fun r3 u3 t H1 locs ht hvm hw3 hB hz hk2 hS => ?_)
  have hI := lwI_k hI hk2
  generalize H1 = H at hI hS ⊢
  have hr3 : r3 = r := by rw [← hw3]; exact hg1
  refine W.widen (k := k + 6) (n := n + 36) (by omega) (by omega) ?_
  refine lv_iload hx hb dL_law_694 (lv_at hl 1 rfl) ?_
  refine lv_icmp_eq (tgt := 701) hx hb dL_law_696 (by decide) (fun cz => ?_) (fun cz => absurd hr3 cz)
  refine lv_iload hx hb dL_law_701 (lv_at hl 1 rfl) ?_
  have kk : W p l e room_1 s m #[Value.ref b] below meth c H locs (k + 6) (n + 36) (lw_Z below #[Value.ref b] s) (F0 m 717 ls []) := by
    refine lv_goto (tgt := 2318) hx hb dL_law_717 (by decide) ?_
    exact K _ _ _ _ _ hI hR hS _ (lv_sub hl [2, 3, 4, 5, 6] rfl)
  refine lv_if_ne (tgt := 717) hx hb dL_law_703 (by decide) (fun cz2 => kk) (fun cz2 => ?_)
  refine lv_aload_n hx hb dL_law_706 rfl (lv_at hl 3 rfl) ?_
  refine lv_iconst (v := 0) hx hb dL_law_707 (by decide) ?_
  refine va_lald hx hb hK hI.1 8 1 rfl rfl in01 dL_law_708 ?_
  refine lv_lload hx hb dL_law_709 (lv_at hl 0 rfl) ?_
  refine W.lcmp hx hb dL_law_711 ?_
  refine lv_if_eq (tgt := 717) hx hb dL_law_712 (by decide) (fun cz3 => kk) (fun cz3 => absurd ((lg_cmp_eq _ _).mpr (hg3 cz2)) cz3)

set_option maxHeartbeats 4000000 in
set_option maxRecDepth 100000 in
theorem lw_c9 {p : Program} {l : Launch} {e : Env} {s : State} {m : MethodId} {below : List Frame} {meth : Method} {c : Code} {b L : Nat} {xs : Nat → Int32} (hfl : l.stackTraces = false) (hL : L ≤ 2048) (C0 : lw_At p s m meth c b L xs) {D : va_G} {cI cJ : ClassId} {ad : Nat → Nat} {ao : Nat} {bd : Nat → Nat} (hK : va_K D pCl (pTy cI cJ) s) (hE : xE (fun q : Nat => s.heap.size ≤ q) s s.heap) (hNc : xN s) (H : Heap) (locs : List Loc) (S : pS) (T : pT) (o : Nat → Int64) (hI : lwI D cI cJ s ad ao bd S o T H) (hR : rel S T) (hS : va_S (fun q : Nat => s.heap.size ≤ q) s.heap H locs) (i : Nat) (hi : i + 4 ≤ L) (x4 : Int32) (hx4 : x4 = nI i) (k n : Nat) (hk : k + 6 ≤ 3102) (hn : n + 36 ≤ 118996) (ls : Array Slot) (hl : lv_has ls 8 [(4, .int x4), (3, .ref ao), (2, .ref (bd 0)), (1, .ref (ad 0)), (0, .ref b)])
    (K : ∀ (H : Heap) (locs : List Loc) (S : pS) (T : pT) (o : Nat → Int64), lwI D cI cJ s ad ao bd S o T H → rel S T → va_S (fun q : Nat => s.heap.size ≤ q) s.heap H locs → ∀ ls : Array Slot, lv_has ls 8 [(4, .int x4), (3, .ref ao), (2, .ref (bd 0)), (1, .ref (ad 0)), (0, .ref b)] → W p l e room_1 s m #[Value.ref b] below meth c H locs (k + 6) (n + 36) (lw_Z below #[Value.ref b] s) (F0 m 2318 ls [])) : W p l e room_1 s m #[Value.ref b] below meth c H locs k n (lw_Z below #[Value.ref b] s) (F0 m 720 ls []) := by
  obtain ⟨hx, hb, hr, hml, hown, hts, hX, hbl, hlocks, hgv⟩ := C0
  have hb : c.code = cL_law := hb
  have hown : s.vm.findClass RL = some m.cls := hown
  have hts : ∀ w ∈ wsL_law, w.before #[Value.ref b] s = true := fun w hw => hts w (wsL_law_in w hw)
  have hbA : ¬ (fun q : Nat => s.heap.size ≤ q) b := Nat.not_le.mpr hbl
  obtain ⟨hi0, hi1, hi2, hi3⟩ := lw_n hL hi hx4
  refine lv_aload_n hx hb dL_law_720 rfl (lv_at hl 3 rfl) ?_
  refine lv_aload_n hx hb dL_law_721 rfl (lv_at hl 4 rfl) ?_
  refine lv_iload hx hb dL_law_722 (lv_at hl 0 rfl) ?_
  refine lv_iconst (v := 1) hx hb dL_law_724 (by decide) ?_
  refine lv_iadd hx hb dL_law_725 ?_
  refine va_sld hx hb hX hbl hbA hS hi1 dL_law_726 ?_
  refine lv_aload_n hx hb dL_law_727 rfl (lv_at hl 1 rfl) ?_
  refine va_calli (vx_runSW (As := [.ref (ad 0), .int (xs (x4 + 1).toNatClampNeg), .ref ao]) (rest := []) ⟨hx, hb, hml, hown, hts⟩ (met_L_shift l hfl D cI cJ ad ao (lwX s bd) S o ((xs (x4 + 1).toNatClampNeg))) (vx_cwSW 3 hts gL_law_L_shift rfl rfl rfl (by decide +kernel) ⟨Nat.le_of_ble_eq_true rfl, Nat.le_of_ble_eq_true rfl⟩) ⟨fun a U g mk q => ⟨q.1, q.2.1, va_K.moved (u := U) (U := U.calling g mk a) (Vm.Alike.refl U.vm) q.2.2.1, q.2.2.2.1, xE_calling q.2.2.2.2.1, xN_calling q.2.2.2.2.2⟩, fun U hU hW => ⟨rfl, by rw [hU]; exact hI.1, va_K.moved hW.alike hK, hI.2.2.1, xE_narrow (xE_at hE hS hU hW) (fun q h => h.elim), xN_at hNc hW⟩⟩ rfl rfl hl.1 rfl (lv_room (Nat.le_of_ble_eq_true rfl)) dL_law_728 ⟨by show _ ≤ 3102; omega, by show _ ≤ 118996; omega⟩) hS (fun q _ h => h.1) (fun q h => h.1) (fun r u t H1 locs ht hvm hw hB hz hk1 hS => ?_)
  rw [ht] at hB
  have hI := lwI_x hI hB hk1
  generalize H1 = H at hI hS ⊢
  refine lv_istore (lv' := [(5, .int r), (4, .int x4), (3, .ref ao), (2, .ref (bd 0)), (1, .ref (ad 0)), (0, .ref b)]) hx hb dL_law_731 hl (by decide) rfl (fun ls hl => ?_)
  refine lv_aload_n hx hb dL_law_733 rfl (lv_at hl 3 rfl) ?_
  refine lv_aload_n hx hb dL_law_734 rfl (lv_at hl 5 rfl) ?_
  refine lv_iload hx hb dL_law_735 (lv_at hl 1 rfl) ?_
  refine lv_iconst (v := 1) hx hb dL_law_737 (by decide) ?_
  refine lv_iadd hx hb dL_law_738 ?_
  refine va_sld hx hb hX hbl hbA hS hi1 dL_law_739 ?_
  refine va_calli (va_runV (As := [.int (xs (x4 + 1).toNatClampNeg)]) (rest := []) ⟨hx, hb, hml, hown, hts⟩ (met_X1_shift l D cI cJ bd (lwM s ad ao) T ((xs (x4 + 1).toNatClampNeg))) (cwV 1 hts gL_law_X1_shift rfl rfl rfl (by decide +kernel) ⟨Nat.le_of_ble_eq_true rfl, Nat.le_of_ble_eq_true rfl⟩) ⟨fun a U g mk q => ⟨q.1, b1R_calling q.2.1, q.2.2⟩, va_recv hK hI.2.1 (ci := 1) (q0 := 0) rfl rfl, fun U hU hW => ⟨rfl, b1R_at hI.2.1 hK hU hW, hI.2.2.2⟩⟩ rfl rfl hl.1 rfl (lv_room (Nat.le_of_ble_eq_true rfl)) dL_law_740 ⟨by show _ ≤ 3102; omega, by show _ ≤ 118996; omega⟩) hS (fun q _ h => h.1) (fun q h => h.1) (fun r2 u2 t H1 locs ht hvm hw2 hB hz hk2 hS => ?_)
  obtain ⟨hP1, hD1⟩ := hB
  rw [ht] at hP1
  have hI := lwI_m hI hP1 hD1 hk2
  generalize H1 = H at hI hS ⊢
  have hg := ag_shift hR o ((xs (x4 + 1).toNatClampNeg))
  rw [hw, hw2] at hg
  obtain ⟨hg1, hR, hg3⟩ := hg
  refine lv_istore (lv' := [(6, .int r2), (5, .int r), (4, .int x4), (3, .ref ao), (2, .ref (bd 0)), (1, .ref (ad 0)), (0, .ref b)]) hx hb dL_law_743 hl (by decide) rfl (fun ls hl => ?_)
  refine lv_aload_n hx hb dL_law_745 rfl (lv_at hl 4 rfl) ?_
  refine va_calli (va_runV (As := []) (rest := []) ⟨hx, hb, hml, hown, hts⟩ (met_X1_thrown l D cI cJ bd u2) (cwV 0 hts gL_law_X1_thrown rfl rfl rfl (by decide +kernel) ⟨Nat.le_of_ble_eq_true rfl, Nat.le_of_ble_eq_true rfl⟩) ⟨fun a U g mk q => ⟨q.1, b1R_calling q.2⟩, va_recv hK hI.2.1 (ci := 1) (q0 := 0) rfl rfl, fun U hU hW => ⟨rfl, b1R_at hI.2.1 hK hU hW⟩⟩ rfl rfl hl.1 rfl (lv_room (Nat.le_of_ble_eq_true rfl)) dL_law_746 ⟨by show _ ≤ 3102; omega, by show _ ≤ 118996; omega⟩) hS (fun q _ h => h.elim) (fun q h => h.elim) (fun r3 u3 t H1 locs ht hvm hw3 hB hz hk2 hS => ?_)
  have hI := lwI_k hI hk2
  generalize H1 = H at hI hS ⊢
  have hr3 : r3 = r := by rw [← hw3]; exact hg1
  refine W.widen (k := k + 6) (n := n + 36) (by omega) (by omega) ?_
  refine lv_iload hx hb dL_law_749 (lv_at hl 1 rfl) ?_
  refine lv_icmp_eq (tgt := 756) hx hb dL_law_751 (by decide) (fun cz => ?_) (fun cz => absurd hr3 cz)
  refine lv_iload hx hb dL_law_756 (lv_at hl 1 rfl) ?_
  have kk : W p l e room_1 s m #[Value.ref b] below meth c H locs (k + 6) (n + 36) (lw_Z below #[Value.ref b] s) (F0 m 773 ls []) := by
    refine lv_goto (tgt := 2318) hx hb dL_law_773 (by decide) ?_
    exact K _ _ _ _ _ hI hR hS _ (lv_sub hl [2, 3, 4, 5, 6] rfl)
  refine lv_if_ne (tgt := 773) hx hb dL_law_758 (by decide) (fun cz2 => kk) (fun cz2 => ?_)
  refine lv_aload_n hx hb dL_law_761 rfl (lv_at hl 3 rfl) ?_
  refine lv_iconst (v := 0) hx hb dL_law_762 (by decide) ?_
  refine va_lald hx hb hK hI.1 8 1 rfl rfl in01 dL_law_763 ?_
  refine lv_iload hx hb dL_law_764 (lv_at hl 0 rfl) ?_
  refine lv_i2l hx hb dL_law_766 rfl ?_
  refine W.lcmp hx hb dL_law_767 ?_
  refine lv_if_eq (tgt := 773) hx hb dL_law_768 (by decide) (fun cz3 => kk) (fun cz3 => absurd ((lg_cmp_eq _ _).mpr (hg3 cz2)) cz3)

set_option maxHeartbeats 4000000 in
set_option maxRecDepth 100000 in
theorem lw_c10 {p : Program} {l : Launch} {e : Env} {s : State} {m : MethodId} {below : List Frame} {meth : Method} {c : Code} {b L : Nat} {xs : Nat → Int32} (hfl : l.stackTraces = false) (hL : L ≤ 2048) (C0 : lw_At p s m meth c b L xs) {D : va_G} {cI cJ : ClassId} {ad : Nat → Nat} {ao : Nat} {bd : Nat → Nat} (hK : va_K D pCl (pTy cI cJ) s) (hE : xE (fun q : Nat => s.heap.size ≤ q) s s.heap) (hNc : xN s) (H : Heap) (locs : List Loc) (S : pS) (T : pT) (o : Nat → Int64) (hI : lwI D cI cJ s ad ao bd S o T H) (hR : rel S T) (hS : va_S (fun q : Nat => s.heap.size ≤ q) s.heap H locs) (i : Nat) (hi : i + 4 ≤ L) (x4 : Int32) (hx4 : x4 = nI i) (k n : Nat) (hk : k + 6 ≤ 3102) (hn : n + 36 ≤ 118996) (ls : Array Slot) (hl : lv_has ls 8 [(4, .int x4), (3, .ref ao), (2, .ref (bd 0)), (1, .ref (ad 0)), (0, .ref b)])
    (K : ∀ (H : Heap) (locs : List Loc) (S : pS) (T : pT) (o : Nat → Int64), lwI D cI cJ s ad ao bd S o T H → rel S T → va_S (fun q : Nat => s.heap.size ≤ q) s.heap H locs → ∀ ls : Array Slot, lv_has ls 8 [(4, .int x4), (3, .ref ao), (2, .ref (bd 0)), (1, .ref (ad 0)), (0, .ref b)] → W p l e room_1 s m #[Value.ref b] below meth c H locs (k + 6) (n + 36) (lw_Z below #[Value.ref b] s) (F0 m 2318 ls [])) : W p l e room_1 s m #[Value.ref b] below meth c H locs k n (lw_Z below #[Value.ref b] s) (F0 m 776 ls []) := by
  obtain ⟨hx, hb, hr, hml, hown, hts, hX, hbl, hlocks, hgv⟩ := C0
  have hb : c.code = cL_law := hb
  have hown : s.vm.findClass RL = some m.cls := hown
  have hts : ∀ w ∈ wsL_law, w.before #[Value.ref b] s = true := fun w hw => hts w (wsL_law_in w hw)
  have hbA : ¬ (fun q : Nat => s.heap.size ≤ q) b := Nat.not_le.mpr hbl
  obtain ⟨hi0, hi1, hi2, hi3⟩ := lw_n hL hi hx4
  refine lv_aload_n hx hb dL_law_776 rfl (lv_at hl 3 rfl) ?_
  refine lv_aload_n hx hb dL_law_777 rfl (lv_at hl 4 rfl) ?_
  refine lv_iload hx hb dL_law_778 (lv_at hl 0 rfl) ?_
  refine lv_iconst (v := 1) hx hb dL_law_780 (by decide) ?_
  refine lv_iadd hx hb dL_law_781 ?_
  refine va_sld hx hb hX hbl hbA hS hi1 dL_law_782 ?_
  refine lv_aload_n hx hb dL_law_783 rfl (lv_at hl 1 rfl) ?_
  refine va_calli (vx_runSW (As := [.ref (ad 0), .int (xs (x4 + 1).toNatClampNeg), .ref ao]) (rest := []) ⟨hx, hb, hml, hown, hts⟩ (met_L_bits l hfl D cI cJ ad ao (lwX s bd) S o ((xs (x4 + 1).toNatClampNeg))) (vx_cwSW 3 hts gL_law_L_bits rfl rfl rfl (by decide +kernel) ⟨Nat.le_of_ble_eq_true rfl, Nat.le_of_ble_eq_true rfl⟩) ⟨fun a U g mk q => ⟨q.1, q.2.1, va_K.moved (u := U) (U := U.calling g mk a) (Vm.Alike.refl U.vm) q.2.2.1, q.2.2.2.1, xE_calling q.2.2.2.2.1, xN_calling q.2.2.2.2.2⟩, fun U hU hW => ⟨rfl, by rw [hU]; exact hI.1, va_K.moved hW.alike hK, hI.2.2.1, xE_narrow (xE_at hE hS hU hW) (fun q h => h.elim), xN_at hNc hW⟩⟩ rfl rfl hl.1 rfl (lv_room (Nat.le_of_ble_eq_true rfl)) dL_law_784 ⟨by show _ ≤ 3102; omega, by show _ ≤ 118996; omega⟩) hS (fun q _ h => h.1) (fun q h => h.1) (fun r u t H1 locs ht hvm hw hB hz hk1 hS => ?_)
  rw [ht] at hB
  have hI := lwI_x hI hB hk1
  generalize H1 = H at hI hS ⊢
  refine lv_istore (lv' := [(5, .int r), (4, .int x4), (3, .ref ao), (2, .ref (bd 0)), (1, .ref (ad 0)), (0, .ref b)]) hx hb dL_law_787 hl (by decide) rfl (fun ls hl => ?_)
  refine lv_aload_n hx hb dL_law_789 rfl (lv_at hl 3 rfl) ?_
  refine lv_aload_n hx hb dL_law_790 rfl (lv_at hl 5 rfl) ?_
  refine lv_iload hx hb dL_law_791 (lv_at hl 1 rfl) ?_
  refine lv_iconst (v := 1) hx hb dL_law_793 (by decide) ?_
  refine lv_iadd hx hb dL_law_794 ?_
  refine va_sld hx hb hX hbl hbA hS hi1 dL_law_795 ?_
  refine va_calll (va_runV (As := [.int (xs (x4 + 1).toNatClampNeg)]) (rest := []) ⟨hx, hb, hml, hown, hts⟩ (met_X1_bits l D cI cJ bd (lwM s ad ao) T ((xs (x4 + 1).toNatClampNeg))) (cwV 1 hts gL_law_X1_bits rfl rfl rfl (by decide +kernel) ⟨Nat.le_of_ble_eq_true rfl, Nat.le_of_ble_eq_true rfl⟩) ⟨fun a U g mk q => ⟨q.1, b1R_calling q.2.1, q.2.2⟩, va_recv hK hI.2.1 (ci := 1) (q0 := 0) rfl rfl, fun U hU hW => ⟨rfl, b1R_at hI.2.1 hK hU hW, hI.2.2.2⟩⟩ rfl rfl hl.1 rfl (lv_room (Nat.le_of_ble_eq_true rfl)) dL_law_796 ⟨by show _ ≤ 3102; omega, by show _ ≤ 118996; omega⟩) hS (fun q _ h => h.1) (fun q h => h.1) (fun r2 u2 t H1 locs ht hvm hw2 hB hz hk2 hS => ?_)
  obtain ⟨hP1, hD1⟩ := hB
  rw [ht] at hP1
  have hI := lwI_m hI hP1 hD1 hk2
  generalize H1 = H at hI hS ⊢
  have hg := ag_bits hR o ((xs (x4 + 1).toNatClampNeg))
  rw [hw, hw2] at hg
  obtain ⟨hg1, hR, hg3⟩ := hg
  refine lv_lstore (lv' := [(6, .long r2), (5, .int r), (4, .int x4), (3, .ref ao), (2, .ref (bd 0)), (1, .ref (ad 0)), (0, .ref b)]) hx hb dL_law_799 hl (by decide) rfl (fun ls hl => ?_)
  refine lv_aload_n hx hb dL_law_801 rfl (lv_at hl 4 rfl) ?_
  refine va_calli (va_runV (As := []) (rest := []) ⟨hx, hb, hml, hown, hts⟩ (met_X1_thrown l D cI cJ bd u2) (cwV 0 hts gL_law_X1_thrown rfl rfl rfl (by decide +kernel) ⟨Nat.le_of_ble_eq_true rfl, Nat.le_of_ble_eq_true rfl⟩) ⟨fun a U g mk q => ⟨q.1, b1R_calling q.2⟩, va_recv hK hI.2.1 (ci := 1) (q0 := 0) rfl rfl, fun U hU hW => ⟨rfl, b1R_at hI.2.1 hK hU hW⟩⟩ rfl rfl hl.1 rfl (lv_room (Nat.le_of_ble_eq_true rfl)) dL_law_802 ⟨by show _ ≤ 3102; omega, by show _ ≤ 118996; omega⟩) hS (fun q _ h => h.elim) (fun q h => h.elim) (fun r3 u3 t H1 locs ht hvm hw3 hB hz hk2 hS => ?_)
  have hI := lwI_k hI hk2
  generalize H1 = H at hI hS ⊢
  have hr3 : r3 = r := by rw [← hw3]; exact hg1
  refine W.widen (k := k + 6) (n := n + 36) (by omega) (by omega) ?_
  refine lv_iload hx hb dL_law_805 (lv_at hl 1 rfl) ?_
  refine lv_icmp_eq (tgt := 812) hx hb dL_law_807 (by decide) (fun cz => ?_) (fun cz => absurd hr3 cz)
  refine lv_iload hx hb dL_law_812 (lv_at hl 1 rfl) ?_
  have kk : W p l e room_1 s m #[Value.ref b] below meth c H locs (k + 6) (n + 36) (lw_Z below #[Value.ref b] s) (F0 m 828 ls []) := by
    refine lv_goto (tgt := 2318) hx hb dL_law_828 (by decide) ?_
    exact K _ _ _ _ _ hI hR hS _ (lv_sub hl [2, 3, 4, 5, 6] rfl)
  refine lv_if_ne (tgt := 828) hx hb dL_law_814 (by decide) (fun cz2 => kk) (fun cz2 => ?_)
  refine lv_aload_n hx hb dL_law_817 rfl (lv_at hl 3 rfl) ?_
  refine lv_iconst (v := 0) hx hb dL_law_818 (by decide) ?_
  refine va_lald hx hb hK hI.1 8 1 rfl rfl in01 dL_law_819 ?_
  refine lv_lload hx hb dL_law_820 (lv_at hl 0 rfl) ?_
  refine W.lcmp hx hb dL_law_822 ?_
  refine lv_if_eq (tgt := 828) hx hb dL_law_823 (by decide) (fun cz3 => kk) (fun cz3 => absurd ((lg_cmp_eq _ _).mpr (hg3 cz2)) cz3)

set_option maxHeartbeats 4000000 in
set_option maxRecDepth 100000 in
theorem lw_c11 {p : Program} {l : Launch} {e : Env} {s : State} {m : MethodId} {below : List Frame} {meth : Method} {c : Code} {b L : Nat} {xs : Nat → Int32} (hfl : l.stackTraces = false) (hL : L ≤ 2048) (C0 : lw_At p s m meth c b L xs) {D : va_G} {cI cJ : ClassId} {ad : Nat → Nat} {ao : Nat} {bd : Nat → Nat} (hK : va_K D pCl (pTy cI cJ) s) (hE : xE (fun q : Nat => s.heap.size ≤ q) s s.heap) (hNc : xN s) (H : Heap) (locs : List Loc) (S : pS) (T : pT) (o : Nat → Int64) (hI : lwI D cI cJ s ad ao bd S o T H) (hR : rel S T) (hS : va_S (fun q : Nat => s.heap.size ≤ q) s.heap H locs) (i : Nat) (hi : i + 4 ≤ L) (x4 : Int32) (hx4 : x4 = nI i) (k n : Nat) (hk : k + 6 ≤ 3102) (hn : n + 36 ≤ 118996) (ls : Array Slot) (hl : lv_has ls 8 [(4, .int x4), (3, .ref ao), (2, .ref (bd 0)), (1, .ref (ad 0)), (0, .ref b)])
    (K : ∀ (H : Heap) (locs : List Loc) (S : pS) (T : pT) (o : Nat → Int64), lwI D cI cJ s ad ao bd S o T H → rel S T → va_S (fun q : Nat => s.heap.size ≤ q) s.heap H locs → ∀ ls : Array Slot, lv_has ls 8 [(4, .int x4), (3, .ref ao), (2, .ref (bd 0)), (1, .ref (ad 0)), (0, .ref b)] → W p l e room_1 s m #[Value.ref b] below meth c H locs (k + 6) (n + 36) (lw_Z below #[Value.ref b] s) (F0 m 2318 ls [])) : W p l e room_1 s m #[Value.ref b] below meth c H locs k n (lw_Z below #[Value.ref b] s) (F0 m 831 ls []) := by
  obtain ⟨hx, hb, hr, hml, hown, hts, hX, hbl, hlocks, hgv⟩ := C0
  have hb : c.code = cL_law := hb
  have hown : s.vm.findClass RL = some m.cls := hown
  have hts : ∀ w ∈ wsL_law, w.before #[Value.ref b] s = true := fun w hw => hts w (wsL_law_in w hw)
  have hbA : ¬ (fun q : Nat => s.heap.size ≤ q) b := Nat.not_le.mpr hbl
  obtain ⟨hi0, hi1, hi2, hi3⟩ := lw_n hL hi hx4
  refine lv_aload_n hx hb dL_law_831 rfl (lv_at hl 3 rfl) ?_
  refine lv_aload_n hx hb dL_law_832 rfl (lv_at hl 4 rfl) ?_
  refine lv_iload hx hb dL_law_833 (lv_at hl 0 rfl) ?_
  refine lv_iconst (v := 1) hx hb dL_law_835 (by decide) ?_
  refine lv_iadd hx hb dL_law_836 ?_
  refine va_sld hx hb hX hbl hbA hS hi1 dL_law_837 ?_
  refine lv_aload_n hx hb dL_law_838 rfl (lv_at hl 1 rfl) ?_
  refine va_calli (vx_runSW (As := [.ref (ad 0), .int (xs (x4 + 1).toNatClampNeg), .ref ao]) (rest := []) ⟨hx, hb, hml, hown, hts⟩ (met_L_isWhole l hfl D cI cJ ad ao (lwX s bd) S o ((xs (x4 + 1).toNatClampNeg))) (vx_cwSW 3 hts gL_law_L_isWhole rfl rfl rfl (by decide +kernel) ⟨Nat.le_of_ble_eq_true rfl, Nat.le_of_ble_eq_true rfl⟩) ⟨fun a U g mk q => ⟨q.1, q.2.1, va_K.moved (u := U) (U := U.calling g mk a) (Vm.Alike.refl U.vm) q.2.2.1, q.2.2.2.1, xE_calling q.2.2.2.2.1, xN_calling q.2.2.2.2.2⟩, fun U hU hW => ⟨rfl, by rw [hU]; exact hI.1, va_K.moved hW.alike hK, hI.2.2.1, xE_narrow (xE_at hE hS hU hW) (fun q h => h.elim), xN_at hNc hW⟩⟩ rfl rfl hl.1 rfl (lv_room (Nat.le_of_ble_eq_true rfl)) dL_law_839 ⟨by show _ ≤ 3102; omega, by show _ ≤ 118996; omega⟩) hS (fun q _ h => h.1) (fun q h => h.1) (fun r u t H1 locs ht hvm hw hB hz hk1 hS => ?_)
  rw [ht] at hB
  have hI := lwI_x hI hB hk1
  generalize H1 = H at hI hS ⊢
  refine lv_istore (lv' := [(5, .int r), (4, .int x4), (3, .ref ao), (2, .ref (bd 0)), (1, .ref (ad 0)), (0, .ref b)]) hx hb dL_law_842 hl (by decide) rfl (fun ls hl => ?_)
  refine lv_aload_n hx hb dL_law_844 rfl (lv_at hl 3 rfl) ?_
  refine lv_aload_n hx hb dL_law_845 rfl (lv_at hl 5 rfl) ?_
  refine lv_iload hx hb dL_law_846 (lv_at hl 1 rfl) ?_
  refine lv_iconst (v := 1) hx hb dL_law_848 (by decide) ?_
  refine lv_iadd hx hb dL_law_849 ?_
  refine va_sld hx hb hX hbl hbA hS hi1 dL_law_850 ?_
  refine va_calli (va_runV (As := [.int (xs (x4 + 1).toNatClampNeg)]) (rest := []) ⟨hx, hb, hml, hown, hts⟩ (met_X1_isWhole l D cI cJ bd (lwM s ad ao) T ((xs (x4 + 1).toNatClampNeg))) (cwV 1 hts gL_law_X1_isWhole rfl rfl rfl (by decide +kernel) ⟨Nat.le_of_ble_eq_true rfl, Nat.le_of_ble_eq_true rfl⟩) ⟨fun a U g mk q => ⟨q.1, b1R_calling q.2.1, q.2.2⟩, va_recv hK hI.2.1 (ci := 1) (q0 := 0) rfl rfl, fun U hU hW => ⟨rfl, b1R_at hI.2.1 hK hU hW, hI.2.2.2⟩⟩ rfl rfl hl.1 rfl (lv_room (Nat.le_of_ble_eq_true rfl)) dL_law_851 ⟨by show _ ≤ 3102; omega, by show _ ≤ 118996; omega⟩) hS (fun q _ h => h.1) (fun q h => h.1) (fun r2 u2 t H1 locs ht hvm hw2 hB hz hk2 hS => ?_)
  obtain ⟨hP1, hD1⟩ := hB
  rw [ht] at hP1
  have hI := lwI_m hI hP1 hD1 hk2
  generalize H1 = H at hI hS ⊢
  obtain ⟨hw2, -⟩ := hw2
  have hg := ag_isWhole hR o ((xs (x4 + 1).toNatClampNeg))
  rw [hw, hw2] at hg
  obtain ⟨hg1, hR, hg3⟩ := hg
  refine lv_istore (lv' := [(6, .int r2), (5, .int r), (4, .int x4), (3, .ref ao), (2, .ref (bd 0)), (1, .ref (ad 0)), (0, .ref b)]) hx hb dL_law_854 hl (by decide) rfl (fun ls hl => ?_)
  refine lv_aload_n hx hb dL_law_856 rfl (lv_at hl 4 rfl) ?_
  refine va_calli (va_runV (As := []) (rest := []) ⟨hx, hb, hml, hown, hts⟩ (met_X1_thrown l D cI cJ bd u2) (cwV 0 hts gL_law_X1_thrown rfl rfl rfl (by decide +kernel) ⟨Nat.le_of_ble_eq_true rfl, Nat.le_of_ble_eq_true rfl⟩) ⟨fun a U g mk q => ⟨q.1, b1R_calling q.2⟩, va_recv hK hI.2.1 (ci := 1) (q0 := 0) rfl rfl, fun U hU hW => ⟨rfl, b1R_at hI.2.1 hK hU hW⟩⟩ rfl rfl hl.1 rfl (lv_room (Nat.le_of_ble_eq_true rfl)) dL_law_857 ⟨by show _ ≤ 3102; omega, by show _ ≤ 118996; omega⟩) hS (fun q _ h => h.elim) (fun q h => h.elim) (fun r3 u3 t H1 locs ht hvm hw3 hB hz hk2 hS => ?_)
  have hI := lwI_k hI hk2
  generalize H1 = H at hI hS ⊢
  have hr3 : r3 = r := by rw [← hw3]; exact hg1
  refine W.widen (k := k + 6) (n := n + 36) (by omega) (by omega) ?_
  refine lv_iload hx hb dL_law_860 (lv_at hl 1 rfl) ?_
  refine lv_icmp_eq (tgt := 867) hx hb dL_law_862 (by decide) (fun cz => ?_) (fun cz => absurd hr3 cz)
  refine lv_iload hx hb dL_law_867 (lv_at hl 1 rfl) ?_
  have kk : W p l e room_1 s m #[Value.ref b] below meth c H locs (k + 6) (n + 36) (lw_Z below #[Value.ref b] s) (F0 m 891 ls []) := by
    refine lv_goto (tgt := 2318) hx hb dL_law_891 (by decide) ?_
    exact K _ _ _ _ _ hI hR hS _ (lv_sub hl [2, 3, 4, 5, 6] rfl)
  refine lv_if_ne (tgt := 891) hx hb dL_law_869 (by decide) (fun cz2 => kk) (fun cz2 => ?_)
  refine lv_aload_n hx hb dL_law_872 rfl (lv_at hl 3 rfl) ?_
  refine lv_iconst (v := 0) hx hb dL_law_873 (by decide) ?_
  refine va_lald hx hb hK hI.1 8 1 rfl rfl in01 dL_law_874 ?_
  refine lv_iload hx hb dL_law_875 (lv_at hl 0 rfl) ?_
  refine lv_if_eq (tgt := 884) hx hb dL_law_877 (by decide) (fun cz4 => ?_) (fun cz4 => ?_)
  · refine lv_lconst (v := 0) hx hb dL_law_884 rfl ?_
    refine W.lcmp hx hb dL_law_885 ?_
    refine lv_if_eq (tgt := 891) hx hb dL_law_886 (by decide) (fun cz3 => kk) (fun cz3 => absurd ((lg_cmp_eq _ _).mpr (by rw [show u.2 ((0 : Int32).toNatClampNeg) = _ from hg3 cz2, if_pos cz4])) cz3)
  · refine lv_lconst (v := 1) hx hb dL_law_880 rfl ?_
    refine lv_goto (tgt := 885) hx hb dL_law_881 (by decide) ?_
    refine W.lcmp hx hb dL_law_885 ?_
    refine lv_if_eq (tgt := 891) hx hb dL_law_886 (by decide) (fun cz3 => kk) (fun cz3 => absurd ((lg_cmp_eq _ _).mpr (by rw [show u.2 ((0 : Int32).toNatClampNeg) = _ from hg3 cz2, if_neg cz4])) cz3)

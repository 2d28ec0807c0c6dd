def f_X1_thrown (T : pT) : Int32 := (thT T)
set_option maxHeartbeats 4000000 in
set_option maxRecDepth 100000 in
theorem met_X1_thrown (l : Launch) (D : va_G) (cI cJ : ClassId) (bd : Nat → Nat) (T : pT) : Met l yX1_thrown wsX1_thrown ({ frames := 0, cells := 0, slots := 0, locals := 0 } : Room) (va_Pc [.ref (bd 0)] (fun U => b1R D cI cJ bd T U)) (va_Qi (fun (r : Int32) (u : Unit) => f_X1_thrown T = r) (fun _ _ => True) (fun _ => False)) 0 0 (fun _ => False) := by
  refine Met.ofW (cc := cX1_thrown) (maxL := 1) (ret := (some .int)) (by decide) rfl ?_
  intro p e s m args below meth c s₁ B hml hv
  obtain ⟨rfl, ⟨hP, hK⟩⟩ := hv
  have hx := B.exec
  have hb := B.bytes
  have hr := B.returns
  have hts := atoms_spec (ws := wsX1_thrown) B.pre
  have hown : s.vm.findClass RX1 = some m.cls := findClass_of_methodNamed B.named
  have hlocks := B.notSynchronized
  have hS : va_S (fun _ => False) s.heap s.heap [] := va_S.rf
  have hin : ∀ w ∈ wsX10, w ∈ wsX1_thrown := by decide +kernel
  have hf36 := hts (.fieldLink RX1 36 "PowermillModel" "thrown" "I") (by decide +kernel)
  have hl := lv_entry ([.ref (bd 0)]) (n := 1) (Nat.le_of_ble_eq_true rfl)
  rw [lg_entry_eq]
  generalize (lg_sl ([.ref (bd 0)]) ++ List.replicate (1 - (lg_sl ([.ref (bd 0)])).length) Slot.unset).toArray = ls at hl ⊢
  have hl : lv_has ls 1 [(0, .ref (bd 0))] := hl
  obtain ⟨Q, hQ⟩ : ∃ Q : State → Prop, Q = (MQ below (va_Qi (fun (r : Int32) (u : Unit) => f_X1_thrown T = r) (fun _ _ => True) (fun _ => False)) ([.ref (bd 0)] : List Value).toArray s 0 0 (fun _ => False)) := ⟨_, rfl⟩
  rw [← hQ]
  have hR : f_X1_thrown T = f_X1_thrown T := rfl
  refine lv_aload_n hx hb dX1_thrown_0 rfl (lv_at hl 0 rfl) ?_
  refine va_get (D := D) (ci := 1) (v := .int (thT T)) (C := RX1) (T := TX1) (N := 12) hx hb hts hin hown hK hP 0 rfl rfl 11 (by decide) hf36 (fun _ h9 => h9) rfl dX1_thrown_1 ?_
  rw [hQ]
  exact W.iret (v := thT T) hx hb hr (fun t ht hW => ⟨⟨thT T, (), rfl, (hR.trans (by simp only [f_X1_thrown])), trivial⟩, hS.F ht⟩) hS.2.2 dX1_thrown_4

def g_X1_no_10 (T : pT) (p0 : Int32) (w10_0 : Int32) : Int32 × pT := (if (p0 : Int32) = 0 then (1, (sgT T, odT T, shT T, ksT T, kgT T, koT T, khT T, kpT T, psT T, poT T, phT T, w10_0)) else (0, (sgT T, odT T, shT T, ksT T, kgT T, koT T, khT T, kpT T, psT T, poT T, phT T, w10_0)))
def f_X1_no (T : pT) (p0 : Int32) (p1 : Int32) : Int32 × pT := (if (p0 : Int32) = 0 then (g_X1_no_10 T p0 p1) else (g_X1_no_10 T p0 0))
set_option maxHeartbeats 4000000 in
set_option maxRecDepth 100000 in
theorem met_X1_no (l : Launch) (D : va_G) (cI cJ : ClassId) (bd : Nat → Nat) (A : Nat → Prop) (T : pT) (p0 : Int32) (p1 : Int32) : Met l yX1_no wsX1_no ({ frames := 0, cells := 0, slots := 0, locals := 0 } : Room) (va_Pc [.ref (bd 0), .int p0, .int p1] (fun U => b1R D cI cJ bd T U ∧ va_D A (mmW cI cJ bd T))) (va_Qi (fun (r : Int32) (u : pT) => f_X1_no T p0 p1 = (r, u) ∧ (r = 0 ∨ r = 1)) (fun (u : pT) t => va_P D pCl (mmW cI cJ bd u) t.heap ∧ va_D A (mmW cI cJ bd u)) A) 0 0 A := by
  refine Met.ofW (cc := cX1_no) (maxL := 3) (ret := (some .boolean)) (by decide) rfl ?_
  intro p e s m args below meth c s₁ B hml hv
  obtain ⟨rfl, ⟨hP, hK⟩, hD⟩ := hv
  have hx := B.exec
  have hb := B.bytes
  have hr := B.returns
  have hts := atoms_spec (ws := wsX1_no) B.pre
  have hown : s.vm.findClass RX1 = some m.cls := findClass_of_methodNamed B.named
  have hlocks := B.notSynchronized
  have hS : va_S A s.heap s.heap [] := va_S.rf
  have hin : ∀ w ∈ wsX10, w ∈ wsX1_no := by decide +kernel
  have hf36 := hts (.fieldLink RX1 36 "PowermillModel" "thrown" "I") (by decide +kernel)
  have hl := lv_entry ([.ref (bd 0), .int p0, .int p1]) (n := 3) (Nat.le_of_ble_eq_true rfl)
  rw [lg_entry_eq]
  generalize (lg_sl ([.ref (bd 0), .int p0, .int p1]) ++ List.replicate (3 - (lg_sl ([.ref (bd 0), .int p0, .int p1])).length) Slot.unset).toArray = ls at hl ⊢
  have hl : lv_has ls 3 [(0, .ref (bd 0)), (1, .int p0), (2, .int p1)] := hl
  obtain ⟨Q, hQ⟩ : ∃ Q : State → Prop, Q = (MQ below (va_Qi (fun (r : Int32) (u : pT) => f_X1_no T p0 p1 = (r, u) ∧ (r = 0 ∨ r = 1)) (fun (u : pT) t => va_P D pCl (mmW cI cJ bd u) t.heap ∧ va_D A (mmW cI cJ bd u)) A) ([.ref (bd 0), .int p0, .int p1] : List Value).toArray s 0 0 A) := ⟨_, rfl⟩
  rw [← hQ]
  have hR : f_X1_no T p0 p1 = f_X1_no T p0 p1 := rfl
  refine lv_aload_n hx hb dX1_no_0 rfl (lv_at hl 0 rfl) ?_
  refine lv_iload_n hx hb dX1_no_1 rfl (lv_at hl 1 rfl) ?_
  have J10 : ∀ (w10_0 : Int32) (ls : Array Slot) (H : Heap) (locs : List Loc), lv_has ls 3 [(0, .ref (bd 0)), (1, .int p0), (2, .int p1)] → va_S A s.heap H locs → va_P D pCl (mmW cI cJ bd T) H → va_D A (mmW cI cJ bd T) → f_X1_no T p0 p1 = g_X1_no_10 T p0 w10_0 → W p l e (headSpec wsX1_no ({ frames := 0, cells := 0, slots := 0, locals := 0 } : Room)).room s m ([.ref (bd 0), .int p0, .int p1] : List Value).toArray below meth c H locs 0 0 Q (F0 m 10 ls [.int w10_0, .ref (bd 0)]) := by
    intro w10_0 ls H locs hl hS hP hD hR
    refine va_put (D := D) (ci := 1) (v := .int w10_0) (ty := .int) (C := RX1) (T := TX1) (N := 12) hx hb hts hin tyX1 tyX1_ok nmX1 hown hK hP hD hS 0 rfl rfl 11 (by decide) hf36 (fun _ h9 => h9) rfl (by decide +kernel) rfl rfl (Nat.le_of_ble_eq_true rfl) dX1_no_10 (fun H locs hP hD hS => ?_)
    have hP : va_P D pCl ([(bd 0, .inr (1, [.ref (bd 1), .ref (bd 2), .ref (bd 3), .ref (bd 4), .ref (bd 5), .ref (bd 6), .ref (bd 7), .int (kpT T), .int (psT T), .long (poT T), .int (phT T), .int w10_0])), (bd 1, .inl (cI, 8, .inl (sgT T))), (bd 2, .inl (cJ, 8, .inr (.inl (odT T)))), (bd 3, .inl (cI, 8, .inl (shT T))), (bd 4, .inl (cI, 8, .inl (ksT T))), (bd 5, .inl (cI, 8, .inl (kgT T))), (bd 6, .inl (cJ, 8, .inr (.inl (koT T)))), (bd 7, .inl (cI, 8, .inl (khT T)))]) H := hP
    have hD : va_D A ([(bd 0, .inr (1, [.ref (bd 1), .ref (bd 2), .ref (bd 3), .ref (bd 4), .ref (bd 5), .ref (bd 6), .ref (bd 7), .int (kpT T), .int (psT T), .long (poT T), .int (phT T), .int w10_0])), (bd 1, .inl (cI, 8, .inl (sgT T))), (bd 2, .inl (cJ, 8, .inr (.inl (odT T)))), (bd 3, .inl (cI, 8, .inl (shT T))), (bd 4, .inl (cI, 8, .inl (ksT T))), (bd 5, .inl (cI, 8, .inl (kgT T))), (bd 6, .inl (cJ, 8, .inr (.inl (koT T)))), (bd 7, .inl (cI, 8, .inl (khT T)))]) := hD
    refine lv_iload_n hx hb dX1_no_13 rfl (lv_at hl 1 rfl) ?_
    refine lv_if_ne (tgt := 21) hx hb dX1_no_14 (by decide) (fun c14 => ?_) (fun c14 => ?_)
    · skip
      refine lv_iconst (v := 0) hx hb dX1_no_21 (by decide) ?_
      rw [hQ]
      exact W.zret (ty := .boolean) (v := 0) hx hb hr (nbool (Or.inl rfl)) (fun t ht hW => ⟨⟨0, (sgT T, odT T, shT T, ksT T, kgT T, koT T, khT T, kpT T, psT T, poT T, phT T, w10_0), rfl, ⟨(hR.trans (by simp only [g_X1_no_10, if_neg c14])), (Or.inl rfl)⟩, by rw [ht]; exact hP, hD⟩, hS.F ht⟩) hS.2.2 dX1_no_22
    · skip
      refine lv_iconst (v := 1) hx hb dX1_no_17 (by decide) ?_
      refine lv_goto (tgt := 22) hx hb dX1_no_18 (by decide) ?_
      rw [hQ]
      exact W.zret (ty := .boolean) (v := 1) hx hb hr (nbool (Or.inr rfl)) (fun t ht hW => ⟨⟨1, (sgT T, odT T, shT T, ksT T, kgT T, koT T, khT T, kpT T, psT T, poT T, phT T, w10_0), rfl, ⟨(hR.trans (by simp only [g_X1_no_10, if_pos c14])), (Or.inr rfl)⟩, by rw [ht]; exact hP, hD⟩, hS.F ht⟩) hS.2.2 dX1_no_22
  refine lv_if_eq (tgt := 9) hx hb dX1_no_2 (by decide) (fun c2 => ?_) (fun c2 => ?_)
  · skip
    refine lv_iload_n hx hb dX1_no_9 rfl (lv_at hl 2 rfl) ?_
    exact J10 p1 ls _ _ (lv_sub hl [0, 1, 2] rfl) hS hP hD (hR.trans (by simp only [f_X1_no, if_pos c2]))
  · skip
    refine lv_iconst (v := 0) hx hb dX1_no_5 (by decide) ?_
    refine lv_goto (tgt := 10) hx hb dX1_no_6 (by decide) ?_
    exact J10 0 ls _ _ (lv_sub hl [0, 1, 2] rfl) hS hP hD (hR.trans (by simp only [f_X1_no, if_neg c2]))

theorem no_ok {b w r : Int32} {T u : pT} (h : f_X1_no T b w = (r, u)) (h0 : r = 0) : ¬ b = 0 := by
  intro e
  rw [e] at h
  have h2 : (f_X1_no T 0 w).1 = 0 := by rw [h]; exact h0
  revert h2
  unfold f_X1_no g_X1_no_10
  simp
def kpR (T : pT) : Prop := 0 ≤ (kpT T).toInt ∧ (kpT T).toInt ≤ 8
def ksR (T : pT) : Prop := ∀ j : Nat, vp_in (ksT T j) 8
theorem kp_of {T u : pT} (e : kpT u = kpT T ∧ ksT u = ksT T) (h : kpR T) : kpR u := by unfold kpR; rw [e.1]; exact h
theorem ks_of {T u : pT} (e : kpT u = kpT T ∧ ksT u = ksT T) (h : ksR T) : ksR u := by unfold ksR; rw [e.2]; exact h
theorem no_kp {b w r : Int32} {T u : pT} (h : f_X1_no T b w = (r, u)) : kpT u = kpT T ∧ ksT u = ksT T := by
  have h2 : u = (f_X1_no T b w).2 := by rw [h]
  rw [h2]
  unfold f_X1_no g_X1_no_10
  repeat' split
  all_goals exact ⟨rfl, rfl⟩

def g_X1_isTold_121 (T : pT) (p2 : Int32) (p3 : Int32) (w24_0 : Int32) (q77_9 : Int64) : Int32 × pT := (if ((p2 * p3) : Int32) < (-1000) then (0, (sgT T, odT T, shT T, ksT T, kgT T, koT T, khT T, kpT T, w24_0, q77_9, (p2 * p3), thT T)) else (if (1000 : Int32) < (p2 * p3) then (0, (sgT T, odT T, shT T, ksT T, kgT T, koT T, khT T, kpT T, w24_0, q77_9, (p2 * p3), thT T)) else (1, (sgT T, odT T, shT T, ksT T, kgT T, koT T, khT T, kpT T, w24_0, q77_9, (p2 * p3), thT T))))
def g_X1_isTold_77 (T : pT) (p1 : Int64) (p2 : Int32) (p3 : Int32) (w24_0 : Int32) : Nat → Int32 → Int64 → (Int32 × pT)
  | 0, _, _ => (0, T)
  | n + 1, v77_6, q77_9 => (if (p3 : Int32) ≤ v77_6 then (g_X1_isTold_121 T p2 p3 w24_0 q77_9) else (if (p1 : Int64) ≤ 1 then (g_X1_isTold_121 T p2 p3 w24_0 q77_9) else (if (q77_9 : Int64) ≤ (9007199254740991 / p1) then (g_X1_isTold_77 T p1 p2 p3 w24_0 n (v77_6 + 1) (q77_9 * p1)) else (0, (sgT T, odT T, shT T, ksT T, kgT T, koT T, khT T, kpT T, w24_0, q77_9, 0, thT T)))))
def g_X1_isTold_42 (T : pT) (p0 : Int32) (p1 : Int64) (p2 : Int32) (p3 : Int32) (w24_0 : Int32) (w42_0 : Int64) : Int32 × pT := (if (p0 : Int32) = 0 then (1, (sgT T, odT T, shT T, ksT T, kgT T, koT T, khT T, kpT T, w24_0, w42_0, 0, thT T)) else (if (p3 : Int32) = 0 then (1, (sgT T, odT T, shT T, ksT T, kgT T, koT T, khT T, kpT T, w24_0, w42_0, 0, thT T)) else (if (0 : Int32) ≤ p3 then (g_X1_isTold_77 T p1 p2 p3 w24_0 (((p3 : Int32).toInt - (0 : Int32).toInt).toNat + 1) 0 w42_0) else (if (p1 : Int64) = 1 then (g_X1_isTold_77 T p1 p2 p3 w24_0 (((p3 : Int32).toInt - (0 : Int32).toInt).toNat + 1) 0 w42_0) else (0, (sgT T, odT T, shT T, ksT T, kgT T, koT T, khT T, kpT T, w24_0, w42_0, 0, thT T))))))
def g_X1_isTold_41 (T : pT) (p0 : Int32) (p1 : Int64) (p2 : Int32) (p3 : Int32) (w24_0 : Int32) : Int32 × pT := (g_X1_isTold_42 T p0 p1 p2 p3 w24_0 1)
def g_X1_isTold_24 (T : pT) (p0 : Int32) (p1 : Int64) (p2 : Int32) (p3 : Int32) (w24_0 : Int32) : Int32 × pT := (if (p3 : Int32) = 0 then (g_X1_isTold_41 T p0 p1 p2 p3 w24_0) else (if (p0 : Int32) = 0 then (g_X1_isTold_42 T p0 p1 p2 p3 w24_0 0) else (g_X1_isTold_41 T p0 p1 p2 p3 w24_0)))
def f_X1_isTold (T : pT) (p0 : Int32) (p1 : Int64) (p2 : Int32) (p3 : Int32) : Int32 × pT := (if (p3 : Int32) = 0 then (g_X1_isTold_24 T p0 p1 p2 p3 1) else (if ((p3 - p3 / 2 * 2) : Int32) = 0 then (g_X1_isTold_24 T p0 p1 p2 p3 (p0 * p0)) else (g_X1_isTold_24 T p0 p1 p2 p3 p0)))
set_option maxHeartbeats 4000000 in
set_option maxRecDepth 100000 in
theorem met_X1_isTold (l : Launch) (D : va_G) (cI cJ : ClassId) (bd : Nat → Nat) (A : Nat → Prop) (T : pT) (p0 : Int32) (p1 : Int64) (p2 : Int32) (p3 : Int32) : Met l yX1_isTold wsX1_isTold ({ frames := 0, cells := 0, slots := 0, locals := 0 } : Room) (va_Pc [.ref (bd 0), .int p0, .long p1, .int p2, .int p3] (fun U => b1R D cI cJ bd T U ∧ va_D A (mmW cI cJ bd T))) (va_Qi (fun (r : Int32) (u : pT) => f_X1_isTold T p0 p1 p2 p3 = (r, u) ∧ (r = 0 ∨ r = 1)) (fun (u : pT) t => va_P D pCl (mmW cI cJ bd u) t.heap ∧ va_D A (mmW cI cJ bd u)) A) 0 0 A := by
  refine Met.ofW (cc := cX1_isTold) (maxL := 7) (ret := (some .boolean)) (by decide) rfl ?_
  intro p e s m args below meth c s₁ B hml hv
  obtain ⟨rfl, ⟨hP, hK⟩, hD⟩ := hv
  have hx := B.exec
  have hb := B.bytes
  have hr := B.returns
  have hts := atoms_spec (ws := wsX1_isTold) B.pre
  have hown : s.vm.findClass RX1 = some m.cls := findClass_of_methodNamed B.named
  have hlocks := B.notSynchronized
  have hS : va_S A s.heap s.heap [] := va_S.rf
  have hin : ∀ w ∈ wsX10, w ∈ wsX1_isTold := by decide +kernel
  have hf51 := hts (.fieldLink RX1 51 "PowermillModel" "powerSign" "I") (by decide +kernel)
  have hf54 := hts (.fieldLink RX1 54 "PowermillModel" "powerOdd" "J") (by decide +kernel)
  have hf58 := hts (.fieldLink RX1 58 "PowermillModel" "powerShift" "I") (by decide +kernel)
  have hl := lv_entry ([.ref (bd 0), .int p0, .long p1, .int p2, .int p3]) (n := 7) (Nat.le_of_ble_eq_true rfl)
  rw [lg_entry_eq]
  generalize (lg_sl ([.ref (bd 0), .int p0, .long p1, .int p2, .int p3]) ++ List.replicate (7 - (lg_sl ([.ref (bd 0), .int p0, .long p1, .int p2, .int p3])).length) Slot.unset).toArray = ls at hl ⊢
  have hl : lv_has ls 7 [(0, .ref (bd 0)), (1, .int p0), (2, .long p1), (4, .int p2), (5, .int p3)] := hl
  obtain ⟨Q, hQ⟩ : ∃ Q : State → Prop, Q = (MQ below (va_Qi (fun (r : Int32) (u : pT) => f_X1_isTold T p0 p1 p2 p3 = (r, u) ∧ (r = 0 ∨ r = 1)) (fun (u : pT) t => va_P D pCl (mmW cI cJ bd u) t.heap ∧ va_D A (mmW cI cJ bd u)) A) ([.ref (bd 0), .int p0, .long p1, .int p2, .int p3] : List Value).toArray s 0 0 A) := ⟨_, rfl⟩
  rw [← hQ]
  have hR : f_X1_isTold T p0 p1 p2 p3 = f_X1_isTold T p0 p1 p2 p3 := rfl
  refine lv_aload_n hx hb dX1_isTold_0 rfl (lv_at hl 0 rfl) ?_
  refine lv_iload hx hb dX1_isTold_1 (lv_at hl 4 rfl) ?_
  have J24 : ∀ (w24_0 : Int32) (ls : Array Slot) (H : Heap) (locs : List Loc), lv_has ls 7 [(0, .ref (bd 0)), (1, .int p0), (2, .long p1), (4, .int p2), (5, .int p3)] → va_S A s.heap H locs → va_P D pCl (mmW cI cJ bd T) H → va_D A (mmW cI cJ bd T) → f_X1_isTold T p0 p1 p2 p3 = g_X1_isTold_24 T p0 p1 p2 p3 w24_0 → W p l e (headSpec wsX1_isTold ({ frames := 0, cells := 0, slots := 0, locals := 0 } : Room)).room s m ([.ref (bd 0), .int p0, .long p1, .int p2, .int p3] : List Value).toArray below meth c H locs 0 0 Q (F0 m 24 ls [.int w24_0, .ref (bd 0)]) := by
    intro w24_0 ls H locs hl hS hP hD hR
    refine va_put (D := D) (ci := 1) (v := .int w24_0) (ty := .int) (C := RX1) (T := TX1) (N := 12) hx hb hts hin tyX1 tyX1_ok nmX1 hown hK hP hD hS 0 rfl rfl 8 (by decide) hf51 (fun _ h9 => h9) rfl (by decide +kernel) rfl rfl (Nat.le_of_ble_eq_true rfl) dX1_isTold_24 (fun H locs hP hD hS => ?_)
    have hP : va_P D pCl ([(bd 0, .inr (1, [.ref (bd 1), .ref (bd 2), .ref (bd 3), .ref (bd 4), .ref (bd 5), .ref (bd 6), .ref (bd 7), .int (kpT T), .int w24_0, .long (poT T), .int (phT T), .int (thT T)])), (bd 1, .inl (cI, 8, .inl (sgT T))), (bd 2, .inl (cJ, 8, .inr (.inl (odT T)))), (bd 3, .inl (cI, 8, .inl (shT T))), (bd 4, .inl (cI, 8, .inl (ksT T))), (bd 5, .inl (cI, 8, .inl (kgT T))), (bd 6, .inl (cJ, 8, .inr (.inl (koT T)))), (bd 7, .inl (cI, 8, .inl (khT T)))]) H := hP
    have hD : va_D A ([(bd 0, .inr (1, [.ref (bd 1), .ref (bd 2), .ref (bd 3), .ref (bd 4), .ref (bd 5), .ref (bd 6), .ref (bd 7), .int (kpT T), .int w24_0, .long (poT T), .int (phT T), .int (thT T)])), (bd 1, .inl (cI, 8, .inl (sgT T))), (bd 2, .inl (cJ, 8, .inr (.inl (odT T)))), (bd 3, .inl (cI, 8, .inl (shT T))), (bd 4, .inl (cI, 8, .inl (ksT T))), (bd 5, .inl (cI, 8, .inl (kgT T))), (bd 6, .inl (cJ, 8, .inr (.inl (koT T)))), (bd 7, .inl (cI, 8, .inl (khT T)))]) := hD
    refine lv_aload_n hx hb dX1_isTold_27 rfl (lv_at hl 0 rfl) ?_
    refine lv_iload hx hb dX1_isTold_28 (lv_at hl 4 rfl) ?_
    have J42 : ∀ (w42_0 : Int64) (ls : Array Slot) (H : Heap) (locs : List Loc), lv_has ls 7 [(0, .ref (bd 0)), (1, .int p0), (2, .long p1), (4, .int p2), (5, .int p3)] → va_S A s.heap H locs → va_P D pCl ([(bd 0, .inr (1, [.ref (bd 1), .ref (bd 2), .ref (bd 3), .ref (bd 4), .ref (bd 5), .ref (bd 6), .ref (bd 7), .int (kpT T), .int w24_0, .long (poT T), .int (phT T), .int (thT T)])), (bd 1, .inl (cI, 8, .inl (sgT T))), (bd 2, .inl (cJ, 8, .inr (.inl (odT T)))), (bd 3, .inl (cI, 8, .inl (shT T))), (bd 4, .inl (cI, 8, .inl (ksT T))), (bd 5, .inl (cI, 8, .inl (kgT T))), (bd 6, .inl (cJ, 8, .inr (.inl (koT T)))), (bd 7, .inl (cI, 8, .inl (khT T)))]) H → va_D A ([(bd 0, .inr (1, [.ref (bd 1), .ref (bd 2), .ref (bd 3), .ref (bd 4), .ref (bd 5), .ref (bd 6), .ref (bd 7), .int (kpT T), .int w24_0, .long (poT T), .int (phT T), .int (thT T)])), (bd 1, .inl (cI, 8, .inl (sgT T))), (bd 2, .inl (cJ, 8, .inr (.inl (odT T)))), (bd 3, .inl (cI, 8, .inl (shT T))), (bd 4, .inl (cI, 8, .inl (ksT T))), (bd 5, .inl (cI, 8, .inl (kgT T))), (bd 6, .inl (cJ, 8, .inr (.inl (koT T)))), (bd 7, .inl (cI, 8, .inl (khT T)))]) → f_X1_isTold T p0 p1 p2 p3 = g_X1_isTold_42 T p0 p1 p2 p3 w24_0 w42_0 → W p l e (headSpec wsX1_isTold ({ frames := 0, cells := 0, slots := 0, locals := 0 } : Room)).room s m ([.ref (bd 0), .int p0, .long p1, .int p2, .int p3] : List Value).toArray below meth c H locs 0 0 Q (F0 m 42 ls [.long w42_0, .ref (bd 0)]) := by
      intro w42_0 ls H locs hl hS hP hD hR
      refine va_put (D := D) (ci := 1) (v := .long w42_0) (ty := .long) (C := RX1) (T := TX1) (N := 12) hx hb hts hin tyX1 tyX1_ok nmX1 hown hK hP hD hS 0 rfl rfl 9 (by decide) hf54 (fun _ h9 => h9) rfl (by decide +kernel) rfl rfl (Nat.le_of_ble_eq_true rfl) dX1_isTold_42 (fun H locs hP hD hS => ?_)
      have hP : va_P D pCl ([(bd 0, .inr (1, [.ref (bd 1), .ref (bd 2), .ref (bd 3), .ref (bd 4), .ref (bd 5), .ref (bd 6), .ref (bd 7), .int (kpT T), .int w24_0, .long w42_0, .int (phT T), .int (thT T)])), (bd 1, .inl (cI, 8, .inl (sgT T))), (bd 2, .inl (cJ, 8, .inr (.inl (odT T)))), (bd 3, .inl (cI, 8, .inl (shT T))), (bd 4, .inl (cI, 8, .inl (ksT T))), (bd 5, .inl (cI, 8, .inl (kgT T))), (bd 6, .inl (cJ, 8, .inr (.inl (koT T)))), (bd 7, .inl (cI, 8, .inl (khT T)))]) H := hP
      have hD : va_D A ([(bd 0, .inr (1, [.ref (bd 1), .ref (bd 2), .ref (bd 3), .ref (bd 4), .ref (bd 5), .ref (bd 6), .ref (bd 7), .int (kpT T), .int w24_0, .long w42_0, .int (phT T), .int (thT T)])), (bd 1, .inl (cI, 8, .inl (sgT T))), (bd 2, .inl (cJ, 8, .inr (.inl (odT T)))), (bd 3, .inl (cI, 8, .inl (shT T))), (bd 4, .inl (cI, 8, .inl (ksT T))), (bd 5, .inl (cI, 8, .inl (kgT T))), (bd 6, .inl (cJ, 8, .inr (.inl (koT T)))), (bd 7, .inl (cI, 8, .inl (khT T)))]) := hD
      refine lv_aload_n hx hb dX1_isTold_45 rfl (lv_at hl 0 rfl) ?_
      refine lv_iconst (v := 0) hx hb dX1_isTold_46 (by decide) ?_
      refine va_put (D := D) (ci := 1) (v := .int 0) (ty := .int) (C := RX1) (T := TX1) (N := 12) hx hb hts hin tyX1 tyX1_ok nmX1 hown hK hP hD hS 0 rfl rfl 10 (by decide) hf58 (fun _ h9 => h9) rfl (by decide +kernel) rfl rfl (Nat.le_of_ble_eq_true rfl) dX1_isTold_47 (fun H locs hP hD hS => ?_)
      have hP : va_P D pCl ([(bd 0, .inr (1, [.ref (bd 1), .ref (bd 2), .ref (bd 3), .ref (bd 4), .ref (bd 5), .ref (bd 6), .ref (bd 7), .int (kpT T), .int w24_0, .long w42_0, .int 0, .int (thT T)])), (bd 1, .inl (cI, 8, .inl (sgT T))), (bd 2, .inl (cJ, 8, .inr (.inl (odT T)))), (bd 3, .inl (cI, 8, .inl (shT T))), (bd 4, .inl (cI, 8, .inl (ksT T))), (bd 5, .inl (cI, 8, .inl (kgT T))), (bd 6, .inl (cJ, 8, .inr (.inl (koT T)))), (bd 7, .inl (cI, 8, .inl (khT T)))]) H := hP
      have hD : va_D A ([(bd 0, .inr (1, [.ref (bd 1), .ref (bd 2), .ref (bd 3), .ref (bd 4), .ref (bd 5), .ref (bd 6), .ref (bd 7), .int (kpT T), .int w24_0, .long w42_0, .int 0, .int (thT T)])), (bd 1, .inl (cI, 8, .inl (sgT T))), (bd 2, .inl (cJ, 8, .inr (.inl (odT T)))), (bd 3, .inl (cI, 8, .inl (shT T))), (bd 4, .inl (cI, 8, .inl (ksT T))), (bd 5, .inl (cI, 8, .inl (kgT T))), (bd 6, .inl (cJ, 8, .inr (.inl (koT T)))), (bd 7, .inl (cI, 8, .inl (khT T)))]) := hD
      refine lv_iload_n hx hb dX1_isTold_50 rfl (lv_at hl 1 rfl) ?_
      refine lv_if_eq (tgt := 59) hx hb dX1_isTold_51 (by decide) (fun c51 => ?_) (fun c51 => ?_)
      · skip
        refine lv_iconst (v := 1) hx hb dX1_isTold_59 (by decide) ?_
        rw [hQ]
        exact W.zret (ty := .boolean) (v := 1) hx hb hr (nbool (Or.inr rfl)) (fun t ht hW => ⟨⟨1, (sgT T, odT T, shT T, ksT T, kgT T, koT T, khT T, kpT T, w24_0, w42_0, 0, thT T), rfl, ⟨(hR.trans (by simp only [g_X1_isTold_42, if_pos c51])), (Or.inr rfl)⟩, by rw [ht]; exact hP, hD⟩, hS.F ht⟩) hS.2.2 dX1_isTold_60
      · skip
        refine lv_iload hx hb dX1_isTold_54 (lv_at hl 4 rfl) ?_
        refine lv_if_ne (tgt := 61) hx hb dX1_isTold_56 (by decide) (fun c56 => ?_) (fun c56 => ?_)
        · skip
          refine lv_iload hx hb dX1_isTold_61 (lv_at hl 4 rfl) ?_
          refine lv_if_ge (tgt := 74) hx hb dX1_isTold_63 (by decide) (fun c63 => ?_) (fun c63 => ?_)
          · skip
            refine lv_iconst (v := 0) hx hb dX1_isTold_74 (by decide) ?_
            refine lv_istore (lv' := [(6, .int 0), (0, .ref (bd 0)), (1, .int p0), (2, .long p1), (4, .int p2), (5, .int p3)]) hx hb dX1_isTold_75 hl (by decide) rfl (fun ls hl => ?_)
            have J77 : ∀ (n77 : Nat) (v77_6 : Int32) (q77_9 : Int64) (ls : Array Slot) (H : Heap) (locs : List Loc), lv_has ls 7 [(0, .ref (bd 0)), (1, .int p0), (2, .long p1), (4, .int p2), (5, .int p3), (6, .int v77_6)] → va_S A s.heap H locs → va_P D pCl ([(bd 0, .inr (1, [.ref (bd 1), .ref (bd 2), .ref (bd 3), .ref (bd 4), .ref (bd 5), .ref (bd 6), .ref (bd 7), .int (kpT T), .int w24_0, .long q77_9, .int 0, .int (thT T)])), (bd 1, .inl (cI, 8, .inl (sgT T))), (bd 2, .inl (cJ, 8, .inr (.inl (odT T)))), (bd 3, .inl (cI, 8, .inl (shT T))), (bd 4, .inl (cI, 8, .inl (ksT T))), (bd 5, .inl (cI, 8, .inl (kgT T))), (bd 6, .inl (cJ, 8, .inr (.inl (koT T)))), (bd 7, .inl (cI, 8, .inl (khT T)))]) H → va_D A ([(bd 0, .inr (1, [.ref (bd 1), .ref (bd 2), .ref (bd 3), .ref (bd 4), .ref (bd 5), .ref (bd 6), .ref (bd 7), .int (kpT T), .int w24_0, .long q77_9, .int 0, .int (thT T)])), (bd 1, .inl (cI, 8, .inl (sgT T))), (bd 2, .inl (cJ, 8, .inr (.inl (odT T)))), (bd 3, .inl (cI, 8, .inl (shT T))), (bd 4, .inl (cI, 8, .inl (ksT T))), (bd 5, .inl (cI, 8, .inl (kgT T))), (bd 6, .inl (cJ, 8, .inr (.inl (koT T)))), (bd 7, .inl (cI, 8, .inl (khT T)))]) → f_X1_isTold T p0 p1 p2 p3 = g_X1_isTold_77 T p1 p2 p3 w24_0 n77 v77_6 q77_9 → ((p3 : Int32).toInt - v77_6.toInt).toNat < n77 → W p l e (headSpec wsX1_isTold ({ frames := 0, cells := 0, slots := 0, locals := 0 } : Room)).room s m ([.ref (bd 0), .int p0, .long p1, .int p2, .int p3] : List Value).toArray below meth c H locs 0 0 Q (F0 m 77 ls []) := by
              intro n77
              induction n77 with
              | zero => intro v77_6 q77_9 ls H locs hl hS hP hD hR hmu77; exact absurd hmu77 (Nat.not_lt_zero _)
              | succ n77 ih77 =>
                intro v77_6 q77_9 ls H locs hl hS hP hD hR hmu77
                refine lv_iload hx hb dX1_isTold_77 (lv_at hl 5 rfl) ?_
                refine lv_iload hx hb dX1_isTold_79 (lv_at hl 4 rfl) ?_
                have J121 : ∀ (ls : Array Slot) (H : Heap) (locs : List Loc), lv_has ls 7 [(0, .ref (bd 0)), (1, .int p0), (2, .long p1), (4, .int p2), (5, .int p3), (6, .int v77_6)] → va_S A s.heap H locs → va_P D pCl ([(bd 0, .inr (1, [.ref (bd 1), .ref (bd 2), .ref (bd 3), .ref (bd 4), .ref (bd 5), .ref (bd 6), .ref (bd 7), .int (kpT T), .int w24_0, .long q77_9, .int 0, .int (thT T)])), (bd 1, .inl (cI, 8, .inl (sgT T))), (bd 2, .inl (cJ, 8, .inr (.inl (odT T)))), (bd 3, .inl (cI, 8, .inl (shT T))), (bd 4, .inl (cI, 8, .inl (ksT T))), (bd 5, .inl (cI, 8, .inl (kgT T))), (bd 6, .inl (cJ, 8, .inr (.inl (koT T)))), (bd 7, .inl (cI, 8, .inl (khT T)))]) H → va_D A ([(bd 0, .inr (1, [.ref (bd 1), .ref (bd 2), .ref (bd 3), .ref (bd 4), .ref (bd 5), .ref (bd 6), .ref (bd 7), .int (kpT T), .int w24_0, .long q77_9, .int 0, .int (thT T)])), (bd 1, .inl (cI, 8, .inl (sgT T))), (bd 2, .inl (cJ, 8, .inr (.inl (odT T)))), (bd 3, .inl (cI, 8, .inl (shT T))), (bd 4, .inl (cI, 8, .inl (ksT T))), (bd 5, .inl (cI, 8, .inl (kgT T))), (bd 6, .inl (cJ, 8, .inr (.inl (koT T)))), (bd 7, .inl (cI, 8, .inl (khT T)))]) → f_X1_isTold T p0 p1 p2 p3 = g_X1_isTold_121 T p2 p3 w24_0 q77_9 → W p l e (headSpec wsX1_isTold ({ frames := 0, cells := 0, slots := 0, locals := 0 } : Room)).room s m ([.ref (bd 0), .int p0, .long p1, .int p2, .int p3] : List Value).toArray below meth c H locs 0 0 Q (F0 m 121 ls []) := by
                  intro ls H locs hl hS hP hD hR
                  refine lv_aload_n hx hb dX1_isTold_121 rfl (lv_at hl 0 rfl) ?_
                  refine lv_iload hx hb dX1_isTold_122 (lv_at hl 3 rfl) ?_
                  refine lv_iload hx hb dX1_isTold_124 (lv_at hl 4 rfl) ?_
                  refine lv_imul hx hb dX1_isTold_126 ?_
                  refine va_put (D := D) (ci := 1) (v := .int (p2 * p3)) (ty := .int) (C := RX1) (T := TX1) (N := 12) hx hb hts hin tyX1 tyX1_ok nmX1 hown hK hP hD hS 0 rfl rfl 10 (by decide) hf58 (fun _ h9 => h9) rfl (by decide +kernel) rfl rfl (Nat.le_of_ble_eq_true rfl) dX1_isTold_127 (fun H locs hP hD hS => ?_)
                  have hP : va_P D pCl ([(bd 0, .inr (1, [.ref (bd 1), .ref (bd 2), .ref (bd 3), .ref (bd 4), .ref (bd 5), .ref (bd 6), .ref (bd 7), .int (kpT T), .int w24_0, .long q77_9, .int (p2 * p3), .int (thT T)])), (bd 1, .inl (cI, 8, .inl (sgT T))), (bd 2, .inl (cJ, 8, .inr (.inl (odT T)))), (bd 3, .inl (cI, 8, .inl (shT T))), (bd 4, .inl (cI, 8, .inl (ksT T))), (bd 5, .inl (cI, 8, .inl (kgT T))), (bd 6, .inl (cJ, 8, .inr (.inl (koT T)))), (bd 7, .inl (cI, 8, .inl (khT T)))]) H := hP
                  have hD : va_D A ([(bd 0, .inr (1, [.ref (bd 1), .ref (bd 2), .ref (bd 3), .ref (bd 4), .ref (bd 5), .ref (bd 6), .ref (bd 7), .int (kpT T), .int w24_0, .long q77_9, .int (p2 * p3), .int (thT T)])), (bd 1, .inl (cI, 8, .inl (sgT T))), (bd 2, .inl (cJ, 8, .inr (.inl (odT T)))), (bd 3, .inl (cI, 8, .inl (shT T))), (bd 4, .inl (cI, 8, .inl (ksT T))), (bd 5, .inl (cI, 8, .inl (kgT T))), (bd 6, .inl (cJ, 8, .inr (.inl (koT T)))), (bd 7, .inl (cI, 8, .inl (khT T)))]) := hD
                  refine lv_aload_n hx hb dX1_isTold_130 rfl (lv_at hl 0 rfl) ?_
                  refine va_get (D := D) (ci := 1) (v := .int (p2 * p3)) (C := RX1) (T := TX1) (N := 12) hx hb hts hin hown hK hP 0 rfl rfl 10 (by decide) hf58 (fun _ h9 => h9) rfl dX1_isTold_131 ?_
                  refine lv_sipush (v := (-1000)) hx hb dX1_isTold_134 (by decide) ?_
                  refine lv_icmp_lt (tgt := 154) hx hb dX1_isTold_137 (by decide) (fun c137 => ?_) (fun c137 => ?_)
                  · skip
                    refine lv_iconst (v := 0) hx hb dX1_isTold_154 (by decide) ?_
                    rw [hQ]
                    exact W.zret (ty := .boolean) (v := 0) hx hb hr (nbool (Or.inl rfl)) (fun t ht hW => ⟨⟨0, (sgT T, odT T, shT T, ksT T, kgT T, koT T, khT T, kpT T, w24_0, q77_9, (p2 * p3), thT T), rfl, ⟨(hR.trans (by simp only [g_X1_isTold_121, if_pos c137])), (Or.inl rfl)⟩, by rw [ht]; exact hP, hD⟩, hS.F ht⟩) hS.2.2 dX1_isTold_155
                  · skip
                    refine lv_aload_n hx hb dX1_isTold_140 rfl (lv_at hl 0 rfl) ?_
                    refine va_get (D := D) (ci := 1) (v := .int (p2 * p3)) (C := RX1) (T := TX1) (N := 12) hx hb hts hin hown hK hP 0 rfl rfl 10 (by decide) hf58 (fun _ h9 => h9) rfl dX1_isTold_141 ?_
                    refine lv_sipush (v := 1000) hx hb dX1_isTold_144 (by decide) ?_
                    refine lv_icmp_gt (tgt := 154) hx hb dX1_isTold_147 (by decide) (fun c147 => ?_) (fun c147 => ?_)
                    · skip
                      refine lv_iconst (v := 0) hx hb dX1_isTold_154 (by decide) ?_
                      rw [hQ]
                      exact W.zret (ty := .boolean) (v := 0) hx hb hr (nbool (Or.inl rfl)) (fun t ht hW => ⟨⟨0, (sgT T, odT T, shT T, ksT T, kgT T, koT T, khT T, kpT T, w24_0, q77_9, (p2 * p3), thT T), rfl, ⟨(hR.trans (by simp only [g_X1_isTold_121, if_neg c137, if_pos c147])), (Or.inl rfl)⟩, by rw [ht]; exact hP, hD⟩, hS.F ht⟩) hS.2.2 dX1_isTold_155
                    · skip
                      refine lv_iconst (v := 1) hx hb dX1_isTold_150 (by decide) ?_
                      refine lv_goto (tgt := 155) hx hb dX1_isTold_151 (by decide) ?_
                      rw [hQ]
                      exact W.zret (ty := .boolean) (v := 1) hx hb hr (nbool (Or.inr rfl)) (fun t ht hW => ⟨⟨1, (sgT T, odT T, shT T, ksT T, kgT T, koT T, khT T, kpT T, w24_0, q77_9, (p2 * p3), thT T), rfl, ⟨(hR.trans (by simp only [g_X1_isTold_121, if_neg c137, if_neg c147])), (Or.inr rfl)⟩, by rw [ht]; exact hP, hD⟩, hS.F ht⟩) hS.2.2 dX1_isTold_155
                refine lv_icmp_ge (tgt := 121) hx hb dX1_isTold_81 (by decide) (fun c81 => ?_) (fun c81 => ?_)
                · skip
                  exact J121 ls _ _ (lv_sub hl [0, 1, 2, 3, 4, 5] rfl) hS hP hD (hR.trans (by simp only [g_X1_isTold_77, if_pos c81]))
                · skip
                  refine lv_lload_n hx hb dX1_isTold_84 rfl (lv_at hl 2 rfl) ?_
                  refine lv_lconst (v := 1) hx hb dX1_isTold_85 rfl ?_
                  refine W.lcmp hx hb dX1_isTold_86 ?_
                  refine lv_if_le (tgt := 121) hx hb dX1_isTold_87 (by decide) (fun c86 => ?_) (fun c86 => ?_)
                  · skip
                    have c86 : (p1 : Int64) ≤ 1 := (lg_cmp_le _ _).mp c86
                    exact J121 ls _ _ (lv_sub hl [0, 1, 2, 3, 4, 5] rfl) hS hP hD (hR.trans (by simp only [g_X1_isTold_77, if_neg c81, if_pos c86]))
                  · skip
                    have c86 : ¬ ((p1 : Int64) ≤ 1) := fun h => c86 ((lg_cmp_le _ _).mpr h)
                    refine lv_aload_n hx hb dX1_isTold_90 rfl (lv_at hl 0 rfl) ?_
                    refine va_get (D := D) (ci := 1) (v := .long q77_9) (C := RX1) (T := TX1) (N := 12) hx hb hts hin hown hK hP 0 rfl rfl 9 (by decide) hf54 (fun _ h9 => h9) rfl dX1_isTold_91 ?_
                    refine lv_ldc2 (v := 9007199254740991) hx hb hown (hts (.constantLong RX1 61 9007199254740991) (by decide +kernel)) dX1_isTold_94 ?_
                    refine lv_lload_n hx hb dX1_isTold_97 rfl (lv_at hl 2 rfl) ?_
                    refine lv_ldiv hx hb dX1_isTold_98 (nz_gt1 c86) ?_
                    refine W.lcmp hx hb dX1_isTold_99 ?_
                    refine lv_if_le (tgt := 105) hx hb dX1_isTold_100 (by decide) (fun c99 => ?_) (fun c99 => ?_)
                    · skip
                      have c99 : (q77_9 : Int64) ≤ (9007199254740991 / p1) := (lg_cmp_le _ _).mp c99
                      refine lv_aload_n hx hb dX1_isTold_105 rfl (lv_at hl 0 rfl) ?_
                      refine lv_aload_n hx hb dX1_isTold_106 rfl (lv_at hl 0 rfl) ?_
                      refine va_get (D := D) (ci := 1) (v := .long q77_9) (C := RX1) (T := TX1) (N := 12) hx hb hts hin hown hK hP 0 rfl rfl 9 (by decide) hf54 (fun _ h9 => h9) rfl dX1_isTold_107 ?_
                      refine lv_lload_n hx hb dX1_isTold_110 rfl (lv_at hl 2 rfl) ?_
                      refine lv_lmul hx hb dX1_isTold_111 ?_
                      refine va_put (D := D) (ci := 1) (v := .long (q77_9 * p1)) (ty := .long) (C := RX1) (T := TX1) (N := 12) hx hb hts hin tyX1 tyX1_ok nmX1 hown hK hP hD hS 0 rfl rfl 9 (by decide) hf54 (fun _ h9 => h9) rfl (by decide +kernel) rfl rfl (Nat.le_of_ble_eq_true rfl) dX1_isTold_112 (fun H locs hP hD hS => ?_)
                      have hP : va_P D pCl ([(bd 0, .inr (1, [.ref (bd 1), .ref (bd 2), .ref (bd 3), .ref (bd 4), .ref (bd 5), .ref (bd 6), .ref (bd 7), .int (kpT T), .int w24_0, .long (q77_9 * p1), .int 0, .int (thT T)])), (bd 1, .inl (cI, 8, .inl (sgT T))), (bd 2, .inl (cJ, 8, .inr (.inl (odT T)))), (bd 3, .inl (cI, 8, .inl (shT T))), (bd 4, .inl (cI, 8, .inl (ksT T))), (bd 5, .inl (cI, 8, .inl (kgT T))), (bd 6, .inl (cJ, 8, .inr (.inl (koT T)))), (bd 7, .inl (cI, 8, .inl (khT T)))]) H := hP
                      have hD : va_D A ([(bd 0, .inr (1, [.ref (bd 1), .ref (bd 2), .ref (bd 3), .ref (bd 4), .ref (bd 5), .ref (bd 6), .ref (bd 7), .int (kpT T), .int w24_0, .long (q77_9 * p1), .int 0, .int (thT T)])), (bd 1, .inl (cI, 8, .inl (sgT T))), (bd 2, .inl (cJ, 8, .inr (.inl (odT T)))), (bd 3, .inl (cI, 8, .inl (shT T))), (bd 4, .inl (cI, 8, .inl (ksT T))), (bd 5, .inl (cI, 8, .inl (kgT T))), (bd 6, .inl (cJ, 8, .inr (.inl (koT T)))), (bd 7, .inl (cI, 8, .inl (khT T)))]) := hD
                      refine lv_iinc (v := (v77_6 + 1)) (lv' := [(6, .int (v77_6 + 1)), (0, .ref (bd 0)), (1, .int p0), (2, .long p1), (4, .int p2), (5, .int p3)]) hx hb dX1_isTold_115 hl (k := 5) rfl (by rfl) (by decide) rfl (fun ls hl => ?_)
                      refine lv_goto (tgt := 77) hx hb dX1_isTold_118 (by decide) ?_
                      exact ih77 (v77_6 + 1) (q77_9 * p1) ls _ _ (lv_sub hl [1, 2, 3, 4, 5, 0] rfl) hS hP hD (hR.trans (by simp only [g_X1_isTold_77, if_neg c81, if_neg c86, if_pos c99])) (mu_up c81 hmu77)
                    · skip
                      have c99 : ¬ ((q77_9 : Int64) ≤ (9007199254740991 / p1)) := fun h => c99 ((lg_cmp_le _ _).mpr h)
                      refine lv_iconst (v := 0) hx hb dX1_isTold_103 (by decide) ?_
                      rw [hQ]
                      exact W.zret (ty := .boolean) (v := 0) hx hb hr (nbool (Or.inl rfl)) (fun t ht hW => ⟨⟨0, (sgT T, odT T, shT T, ksT T, kgT T, koT T, khT T, kpT T, w24_0, q77_9, 0, thT T), rfl, ⟨(hR.trans (by simp only [g_X1_isTold_77, if_neg c81, if_neg c86, if_neg c99])), (Or.inl rfl)⟩, by rw [ht]; exact hP, hD⟩, hS.F ht⟩) hS.2.2 dX1_isTold_104
            exact J77 (((p3 : Int32).toInt - (0 : Int32).toInt).toNat + 1) 0 w42_0 ls _ _ (lv_sub hl [1, 2, 3, 4, 5, 0] rfl) hS hP hD (hR.trans (by simp only [g_X1_isTold_42, if_neg c51, if_neg c56, if_pos c63])) (Nat.lt_succ_self _)
          · skip
            refine lv_lload_n hx hb dX1_isTold_66 rfl (lv_at hl 2 rfl) ?_
            refine lv_lconst (v := 1) hx hb dX1_isTold_67 rfl ?_
            refine W.lcmp hx hb dX1_isTold_68 ?_
            refine lv_if_eq (tgt := 74) hx hb dX1_isTold_69 (by decide) (fun c68 => ?_) (fun c68 => ?_)
            · skip
              have c68 : (p1 : Int64) = 1 := (lg_cmp_eq _ _).mp c68
              refine lv_iconst (v := 0) hx hb dX1_isTold_74 (by decide) ?_
              refine lv_istore (lv' := [(6, .int 0), (0, .ref (bd 0)), (1, .int p0), (2, .long p1), (4, .int p2), (5, .int p3)]) hx hb dX1_isTold_75 hl (by decide) rfl (fun ls hl => ?_)
              have J77 : ∀ (n77 : Nat) (v77_6 : Int32) (q77_9 : Int64) (ls : Array Slot) (H : Heap) (locs : List Loc), lv_has ls 7 [(0, .ref (bd 0)), (1, .int p0), (2, .long p1), (4, .int p2), (5, .int p3), (6, .int v77_6)] → va_S A s.heap H locs → va_P D pCl ([(bd 0, .inr (1, [.ref (bd 1), .ref (bd 2), .ref (bd 3), .ref (bd 4), .ref (bd 5), .ref (bd 6), .ref (bd 7), .int (kpT T), .int w24_0, .long q77_9, .int 0, .int (thT T)])), (bd 1, .inl (cI, 8, .inl (sgT T))), (bd 2, .inl (cJ, 8, .inr (.inl (odT T)))), (bd 3, .inl (cI, 8, .inl (shT T))), (bd 4, .inl (cI, 8, .inl (ksT T))), (bd 5, .inl (cI, 8, .inl (kgT T))), (bd 6, .inl (cJ, 8, .inr (.inl (koT T)))), (bd 7, .inl (cI, 8, .inl (khT T)))]) H → va_D A ([(bd 0, .inr (1, [.ref (bd 1), .ref (bd 2), .ref (bd 3), .ref (bd 4), .ref (bd 5), .ref (bd 6), .ref (bd 7), .int (kpT T), .int w24_0, .long q77_9, .int 0, .int (thT T)])), (bd 1, .inl (cI, 8, .inl (sgT T))), (bd 2, .inl (cJ, 8, .inr (.inl (odT T)))), (bd 3, .inl (cI, 8, .inl (shT T))), (bd 4, .inl (cI, 8, .inl (ksT T))), (bd 5, .inl (cI, 8, .inl (kgT T))), (bd 6, .inl (cJ, 8, .inr (.inl (koT T)))), (bd 7, .inl (cI, 8, .inl (khT T)))]) → f_X1_isTold T p0 p1 p2 p3 = g_X1_isTold_77 T p1 p2 p3 w24_0 n77 v77_6 q77_9 → ((p3 : Int32).toInt - v77_6.toInt).toNat < n77 → W p l e (headSpec wsX1_isTold ({ frames := 0, cells := 0, slots := 0, locals := 0 } : Room)).room s m ([.ref (bd 0), .int p0, .long p1, .int p2, .int p3] : List Value).toArray below meth c H locs 0 0 Q (F0 m 77 ls []) := by
                intro n77
                induction n77 with
                | zero => intro v77_6 q77_9 ls H locs hl hS hP hD hR hmu77; exact absurd hmu77 (Nat.not_lt_zero _)
                | succ n77 ih77 =>
                  intro v77_6 q77_9 ls H locs hl hS hP hD hR hmu77
                  refine lv_iload hx hb dX1_isTold_77 (lv_at hl 5 rfl) ?_
                  refine lv_iload hx hb dX1_isTold_79 (lv_at hl 4 rfl) ?_
                  have J121 : ∀ (ls : Array Slot) (H : Heap) (locs : List Loc), lv_has ls 7 [(0, .ref (bd 0)), (1, .int p0), (2, .long p1), (4, .int p2), (5, .int p3), (6, .int v77_6)] → va_S A s.heap H locs → va_P D pCl ([(bd 0, .inr (1, [.ref (bd 1), .ref (bd 2), .ref (bd 3), .ref (bd 4), .ref (bd 5), .ref (bd 6), .ref (bd 7), .int (kpT T), .int w24_0, .long q77_9, .int 0, .int (thT T)])), (bd 1, .inl (cI, 8, .inl (sgT T))), (bd 2, .inl (cJ, 8, .inr (.inl (odT T)))), (bd 3, .inl (cI, 8, .inl (shT T))), (bd 4, .inl (cI, 8, .inl (ksT T))), (bd 5, .inl (cI, 8, .inl (kgT T))), (bd 6, .inl (cJ, 8, .inr (.inl (koT T)))), (bd 7, .inl (cI, 8, .inl (khT T)))]) H → va_D A ([(bd 0, .inr (1, [.ref (bd 1), .ref (bd 2), .ref (bd 3), .ref (bd 4), .ref (bd 5), .ref (bd 6), .ref (bd 7), .int (kpT T), .int w24_0, .long q77_9, .int 0, .int (thT T)])), (bd 1, .inl (cI, 8, .inl (sgT T))), (bd 2, .inl (cJ, 8, .inr (.inl (odT T)))), (bd 3, .inl (cI, 8, .inl (shT T))), (bd 4, .inl (cI, 8, .inl (ksT T))), (bd 5, .inl (cI, 8, .inl (kgT T))), (bd 6, .inl (cJ, 8, .inr (.inl (koT T)))), (bd 7, .inl (cI, 8, .inl (khT T)))]) → f_X1_isTold T p0 p1 p2 p3 = g_X1_isTold_121 T p2 p3 w24_0 q77_9 → W p l e (headSpec wsX1_isTold ({ frames := 0, cells := 0, slots := 0, locals := 0 } : Room)).room s m ([.ref (bd 0), .int p0, .long p1, .int p2, .int p3] : List Value).toArray below meth c H locs 0 0 Q (F0 m 121 ls []) := by
                    intro ls H locs hl hS hP hD hR
                    refine lv_aload_n hx hb dX1_isTold_121 rfl (lv_at hl 0 rfl) ?_
                    refine lv_iload hx hb dX1_isTold_122 (lv_at hl 3 rfl) ?_
                    refine lv_iload hx hb dX1_isTold_124 (lv_at hl 4 rfl) ?_
                    refine lv_imul hx hb dX1_isTold_126 ?_
                    refine va_put (D := D) (ci := 1) (v := .int (p2 * p3)) (ty := .int) (C := RX1) (T := TX1) (N := 12) hx hb hts hin tyX1 tyX1_ok nmX1 hown hK hP hD hS 0 rfl rfl 10 (by decide) hf58 (fun _ h9 => h9) rfl (by decide +kernel) rfl rfl (Nat.le_of_ble_eq_true rfl) dX1_isTold_127 (fun H locs hP hD hS => ?_)
                    have hP : va_P D pCl ([(bd 0, .inr (1, [.ref (bd 1), .ref (bd 2), .ref (bd 3), .ref (bd 4), .ref (bd 5), .ref (bd 6), .ref (bd 7), .int (kpT T), .int w24_0, .long q77_9, .int (p2 * p3), .int (thT T)])), (bd 1, .inl (cI, 8, .inl (sgT T))), (bd 2, .inl (cJ, 8, .inr (.inl (odT T)))), (bd 3, .inl (cI, 8, .inl (shT T))), (bd 4, .inl (cI, 8, .inl (ksT T))), (bd 5, .inl (cI, 8, .inl (kgT T))), (bd 6, .inl (cJ, 8, .inr (.inl (koT T)))), (bd 7, .inl (cI, 8, .inl (khT T)))]) H := hP
                    have hD : va_D A ([(bd 0, .inr (1, [.ref (bd 1), .ref (bd 2), .ref (bd 3), .ref (bd 4), .ref (bd 5), .ref (bd 6), .ref (bd 7), .int (kpT T), .int w24_0, .long q77_9, .int (p2 * p3), .int (thT T)])), (bd 1, .inl (cI, 8, .inl (sgT T))), (bd 2, .inl (cJ, 8, .inr (.inl (odT T)))), (bd 3, .inl (cI, 8, .inl (shT T))), (bd 4, .inl (cI, 8, .inl (ksT T))), (bd 5, .inl (cI, 8, .inl (kgT T))), (bd 6, .inl (cJ, 8, .inr (.inl (koT T)))), (bd 7, .inl (cI, 8, .inl (khT T)))]) := hD
                    refine lv_aload_n hx hb dX1_isTold_130 rfl (lv_at hl 0 rfl) ?_
                    refine va_get (D := D) (ci := 1) (v := .int (p2 * p3)) (C := RX1) (T := TX1) (N := 12) hx hb hts hin hown hK hP 0 rfl rfl 10 (by decide) hf58 (fun _ h9 => h9) rfl dX1_isTold_131 ?_
                    refine lv_sipush (v := (-1000)) hx hb dX1_isTold_134 (by decide) ?_
                    refine lv_icmp_lt (tgt := 154) hx hb dX1_isTold_137 (by decide) (fun c137 => ?_) (fun c137 => ?_)
                    · skip
                      refine lv_iconst (v := 0) hx hb dX1_isTold_154 (by decide) ?_
                      rw [hQ]
                      exact W.zret (ty := .boolean) (v := 0) hx hb hr (nbool (Or.inl rfl)) (fun t ht hW => ⟨⟨0, (sgT T, odT T, shT T, ksT T, kgT T, koT T, khT T, kpT T, w24_0, q77_9, (p2 * p3), thT T), rfl, ⟨(hR.trans (by simp only [g_X1_isTold_121, if_pos c137])), (Or.inl rfl)⟩, by rw [ht]; exact hP, hD⟩, hS.F ht⟩) hS.2.2 dX1_isTold_155
                    · skip
                      refine lv_aload_n hx hb dX1_isTold_140 rfl (lv_at hl 0 rfl) ?_
                      refine va_get (D := D) (ci := 1) (v := .int (p2 * p3)) (C := RX1) (T := TX1) (N := 12) hx hb hts hin hown hK hP 0 rfl rfl 10 (by decide) hf58 (fun _ h9 => h9) rfl dX1_isTold_141 ?_
                      refine lv_sipush (v := 1000) hx hb dX1_isTold_144 (by decide) ?_
                      refine lv_icmp_gt (tgt := 154) hx hb dX1_isTold_147 (by decide) (fun c147 => ?_) (fun c147 => ?_)
                      · skip
                        refine lv_iconst (v := 0) hx hb dX1_isTold_154 (by decide) ?_
                        rw [hQ]
                        exact W.zret (ty := .boolean) (v := 0) hx hb hr (nbool (Or.inl rfl)) (fun t ht hW => ⟨⟨0, (sgT T, odT T, shT T, ksT T, kgT T, koT T, khT T, kpT T, w24_0, q77_9, (p2 * p3), thT T), rfl, ⟨(hR.trans (by simp only [g_X1_isTold_121, if_neg c137, if_pos c147])), (Or.inl rfl)⟩, by rw [ht]; exact hP, hD⟩, hS.F ht⟩) hS.2.2 dX1_isTold_155
                      · skip
                        refine lv_iconst (v := 1) hx hb dX1_isTold_150 (by decide) ?_
                        refine lv_goto (tgt := 155) hx hb dX1_isTold_151 (by decide) ?_
                        rw [hQ]
                        exact W.zret (ty := .boolean) (v := 1) hx hb hr (nbool (Or.inr rfl)) (fun t ht hW => ⟨⟨1, (sgT T, odT T, shT T, ksT T, kgT T, koT T, khT T, kpT T, w24_0, q77_9, (p2 * p3), thT T), rfl, ⟨(hR.trans (by simp only [g_X1_isTold_121, if_neg c137, if_neg c147])), (Or.inr rfl)⟩, by rw [ht]; exact hP, hD⟩, hS.F ht⟩) hS.2.2 dX1_isTold_155
                  refine lv_icmp_ge (tgt := 121) hx hb dX1_isTold_81 (by decide) (fun c81 => ?_) (fun c81 => ?_)
                  · skip
                    exact J121 ls _ _ (lv_sub hl [0, 1, 2, 3, 4, 5] rfl) hS hP hD (hR.trans (by simp only [g_X1_isTold_77, if_pos c81]))
                  · skip
                    refine lv_lload_n hx hb dX1_isTold_84 rfl (lv_at hl 2 rfl) ?_
                    refine lv_lconst (v := 1) hx hb dX1_isTold_85 rfl ?_
                    refine W.lcmp hx hb dX1_isTold_86 ?_
                    refine lv_if_le (tgt := 121) hx hb dX1_isTold_87 (by decide) (fun c86 => ?_) (fun c86 => ?_)
                    · skip
                      have c86 : (p1 : Int64) ≤ 1 := (lg_cmp_le _ _).mp c86
                      exact J121 ls _ _ (lv_sub hl [0, 1, 2, 3, 4, 5] rfl) hS hP hD (hR.trans (by simp only [g_X1_isTold_77, if_neg c81, if_pos c86]))
                    · skip
                      have c86 : ¬ ((p1 : Int64) ≤ 1) := fun h => c86 ((lg_cmp_le _ _).mpr h)
                      refine lv_aload_n hx hb dX1_isTold_90 rfl (lv_at hl 0 rfl) ?_
                      refine va_get (D := D) (ci := 1) (v := .long q77_9) (C := RX1) (T := TX1) (N := 12) hx hb hts hin hown hK hP 0 rfl rfl 9 (by decide) hf54 (fun _ h9 => h9) rfl dX1_isTold_91 ?_
                      refine lv_ldc2 (v := 9007199254740991) hx hb hown (hts (.constantLong RX1 61 9007199254740991) (by decide +kernel)) dX1_isTold_94 ?_
                      refine lv_lload_n hx hb dX1_isTold_97 rfl (lv_at hl 2 rfl) ?_
                      refine lv_ldiv hx hb dX1_isTold_98 (nz_gt1 c86) ?_
                      refine W.lcmp hx hb dX1_isTold_99 ?_
                      refine lv_if_le (tgt := 105) hx hb dX1_isTold_100 (by decide) (fun c99 => ?_) (fun c99 => ?_)
                      · skip
                        have c99 : (q77_9 : Int64) ≤ (9007199254740991 / p1) := (lg_cmp_le _ _).mp c99
                        refine lv_aload_n hx hb dX1_isTold_105 rfl (lv_at hl 0 rfl) ?_
                        refine lv_aload_n hx hb dX1_isTold_106 rfl (lv_at hl 0 rfl) ?_
                        refine va_get (D := D) (ci := 1) (v := .long q77_9) (C := RX1) (T := TX1) (N := 12) hx hb hts hin hown hK hP 0 rfl rfl 9 (by decide) hf54 (fun _ h9 => h9) rfl dX1_isTold_107 ?_
                        refine lv_lload_n hx hb dX1_isTold_110 rfl (lv_at hl 2 rfl) ?_
                        refine lv_lmul hx hb dX1_isTold_111 ?_
                        refine va_put (D := D) (ci := 1) (v := .long (q77_9 * p1)) (ty := .long) (C := RX1) (T := TX1) (N := 12) hx hb hts hin tyX1 tyX1_ok nmX1 hown hK hP hD hS 0 rfl rfl 9 (by decide) hf54 (fun _ h9 => h9) rfl (by decide +kernel) rfl rfl (Nat.le_of_ble_eq_true rfl) dX1_isTold_112 (fun H locs hP hD hS => ?_)
                        have hP : va_P D pCl ([(bd 0, .inr (1, [.ref (bd 1), .ref (bd 2), .ref (bd 3), .ref (bd 4), .ref (bd 5), .ref (bd 6), .ref (bd 7), .int (kpT T), .int w24_0, .long (q77_9 * p1), .int 0, .int (thT T)])), (bd 1, .inl (cI, 8, .inl (sgT T))), (bd 2, .inl (cJ, 8, .inr (.inl (odT T)))), (bd 3, .inl (cI, 8, .inl (shT T))), (bd 4, .inl (cI, 8, .inl (ksT T))), (bd 5, .inl (cI, 8, .inl (kgT T))), (bd 6, .inl (cJ, 8, .inr (.inl (koT T)))), (bd 7, .inl (cI, 8, .inl (khT T)))]) H := hP
                        have hD : va_D A ([(bd 0, .inr (1, [.ref (bd 1), .ref (bd 2), .ref (bd 3), .ref (bd 4), .ref (bd 5), .ref (bd 6), .ref (bd 7), .int (kpT T), .int w24_0, .long (q77_9 * p1), .int 0, .int (thT T)])), (bd 1, .inl (cI, 8, .inl (sgT T))), (bd 2, .inl (cJ, 8, .inr (.inl (odT T)))), (bd 3, .inl (cI, 8, .inl (shT T))), (bd 4, .inl (cI, 8, .inl (ksT T))), (bd 5, .inl (cI, 8, .inl (kgT T))), (bd 6, .inl (cJ, 8, .inr (.inl (koT T)))), (bd 7, .inl (cI, 8, .inl (khT T)))]) := hD
                        refine lv_iinc (v := (v77_6 + 1)) (lv' := [(6, .int (v77_6 + 1)), (0, .ref (bd 0)), (1, .int p0), (2, .long p1), (4, .int p2), (5, .int p3)]) hx hb dX1_isTold_115 hl (k := 5) rfl (by rfl) (by decide) rfl (fun ls hl => ?_)
                        refine lv_goto (tgt := 77) hx hb dX1_isTold_118 (by decide) ?_
                        exact ih77 (v77_6 + 1) (q77_9 * p1) ls _ _ (lv_sub hl [1, 2, 3, 4, 5, 0] rfl) hS hP hD (hR.trans (by simp only [g_X1_isTold_77, if_neg c81, if_neg c86, if_pos c99])) (mu_up c81 hmu77)
                      · skip
                        have c99 : ¬ ((q77_9 : Int64) ≤ (9007199254740991 / p1)) := fun h => c99 ((lg_cmp_le _ _).mpr h)
                        refine lv_iconst (v := 0) hx hb dX1_isTold_103 (by decide) ?_
                        rw [hQ]
                        exact W.zret (ty := .boolean) (v := 0) hx hb hr (nbool (Or.inl rfl)) (fun t ht hW => ⟨⟨0, (sgT T, odT T, shT T, ksT T, kgT T, koT T, khT T, kpT T, w24_0, q77_9, 0, thT T), rfl, ⟨(hR.trans (by simp only [g_X1_isTold_77, if_neg c81, if_neg c86, if_neg c99])), (Or.inl rfl)⟩, by rw [ht]; exact hP, hD⟩, hS.F ht⟩) hS.2.2 dX1_isTold_104
              exact J77 (((p3 : Int32).toInt - (0 : Int32).toInt).toNat + 1) 0 w42_0 ls _ _ (lv_sub hl [1, 2, 3, 4, 5, 0] rfl) hS hP hD (hR.trans (by simp only [g_X1_isTold_42, if_neg c51, if_neg c56, if_neg c63, if_pos c68])) (Nat.lt_succ_self _)
            · skip
              have c68 : ¬ ((p1 : Int64) = 1) := fun h => c68 ((lg_cmp_eq _ _).mpr h)
              refine lv_iconst (v := 0) hx hb dX1_isTold_72 (by decide) ?_
              rw [hQ]
              exact W.zret (ty := .boolean) (v := 0) hx hb hr (nbool (Or.inl rfl)) (fun t ht hW => ⟨⟨0, (sgT T, odT T, shT T, ksT T, kgT T, koT T, khT T, kpT T, w24_0, w42_0, 0, thT T), rfl, ⟨(hR.trans (by simp only [g_X1_isTold_42, if_neg c51, if_neg c56, if_neg c63, if_neg c68])), (Or.inl rfl)⟩, by rw [ht]; exact hP, hD⟩, hS.F ht⟩) hS.2.2 dX1_isTold_73
        · skip
          refine lv_iconst (v := 1) hx hb dX1_isTold_59 (by decide) ?_
          rw [hQ]
          exact W.zret (ty := .boolean) (v := 1) hx hb hr (nbool (Or.inr rfl)) (fun t ht hW => ⟨⟨1, (sgT T, odT T, shT T, ksT T, kgT T, koT T, khT T, kpT T, w24_0, w42_0, 0, thT T), rfl, ⟨(hR.trans (by simp only [g_X1_isTold_42, if_neg c51, if_pos c56])), (Or.inr rfl)⟩, by rw [ht]; exact hP, hD⟩, hS.F ht⟩) hS.2.2 dX1_isTold_60
    have J41 : ∀ (ls : Array Slot) (H : Heap) (locs : List Loc), lv_has ls 7 [(0, .ref (bd 0)), (1, .int p0), (2, .long p1), (4, .int p2), (5, .int p3)] → va_S A s.heap H locs → va_P D pCl ([(bd 0, .inr (1, [.ref (bd 1), .ref (bd 2), .ref (bd 3), .ref (bd 4), .ref (bd 5), .ref (bd 6), .ref (bd 7), .int (kpT T), .int w24_0, .long (poT T), .int (phT T), .int (thT T)])), (bd 1, .inl (cI, 8, .inl (sgT T))), (bd 2, .inl (cJ, 8, .inr (.inl (odT T)))), (bd 3, .inl (cI, 8, .inl (shT T))), (bd 4, .inl (cI, 8, .inl (ksT T))), (bd 5, .inl (cI, 8, .inl (kgT T))), (bd 6, .inl (cJ, 8, .inr (.inl (koT T)))), (bd 7, .inl (cI, 8, .inl (khT T)))]) H → va_D A ([(bd 0, .inr (1, [.ref (bd 1), .ref (bd 2), .ref (bd 3), .ref (bd 4), .ref (bd 5), .ref (bd 6), .ref (bd 7), .int (kpT T), .int w24_0, .long (poT T), .int (phT T), .int (thT T)])), (bd 1, .inl (cI, 8, .inl (sgT T))), (bd 2, .inl (cJ, 8, .inr (.inl (odT T)))), (bd 3, .inl (cI, 8, .inl (shT T))), (bd 4, .inl (cI, 8, .inl (ksT T))), (bd 5, .inl (cI, 8, .inl (kgT T))), (bd 6, .inl (cJ, 8, .inr (.inl (koT T)))), (bd 7, .inl (cI, 8, .inl (khT T)))]) → f_X1_isTold T p0 p1 p2 p3 = g_X1_isTold_41 T p0 p1 p2 p3 w24_0 → W p l e (headSpec wsX1_isTold ({ frames := 0, cells := 0, slots := 0, locals := 0 } : Room)).room s m ([.ref (bd 0), .int p0, .long p1, .int p2, .int p3] : List Value).toArray below meth c H locs 0 0 Q (F0 m 41 ls [.ref (bd 0)]) := by
      intro ls H locs hl hS hP hD hR
      refine lv_lconst (v := 1) hx hb dX1_isTold_41 rfl ?_
      exact J42 1 ls _ _ (lv_sub hl [0, 1, 2, 3, 4] rfl) hS hP hD (hR.trans (by simp only [g_X1_isTold_41]))
    refine lv_if_eq (tgt := 41) hx hb dX1_isTold_30 (by decide) (fun c30 => ?_) (fun c30 => ?_)
    · skip
      exact J41 ls _ _ (lv_sub hl [0, 1, 2, 3, 4] rfl) hS hP hD (hR.trans (by simp only [g_X1_isTold_24, if_pos c30]))
    · skip
      refine lv_iload_n hx hb dX1_isTold_33 rfl (lv_at hl 1 rfl) ?_
      refine lv_if_ne (tgt := 41) hx hb dX1_isTold_34 (by decide) (fun c34 => ?_) (fun c34 => ?_)
      · skip
        exact J41 ls _ _ (lv_sub hl [0, 1, 2, 3, 4] rfl) hS hP hD (hR.trans (by simp only [g_X1_isTold_24, if_neg c30, if_neg c34]))
      · skip
        refine lv_lconst (v := 0) hx hb dX1_isTold_37 rfl ?_
        refine lv_goto (tgt := 42) hx hb dX1_isTold_38 (by decide) ?_
        exact J42 0 ls _ _ (lv_sub hl [0, 1, 2, 3, 4] rfl) hS hP hD (hR.trans (by simp only [g_X1_isTold_24, if_neg c30, if_pos c34]))
  refine lv_if_ne (tgt := 10) hx hb dX1_isTold_3 (by decide) (fun c3 => ?_) (fun c3 => ?_)
  · skip
    refine lv_iload hx hb dX1_isTold_10 (lv_at hl 4 rfl) ?_
    refine lv_iconst (v := 2) hx hb dX1_isTold_12 (by decide) ?_
    refine lv_irem hx hb dX1_isTold_13 (by decide) ?_
    refine lv_if_ne (tgt := 23) hx hb dX1_isTold_14 (by decide) (fun c14 => ?_) (fun c14 => ?_)
    · skip
      refine lv_iload_n hx hb dX1_isTold_23 rfl (lv_at hl 1 rfl) ?_
      exact J24 p0 ls _ _ (lv_sub hl [0, 1, 2, 3, 4] rfl) hS hP hD (hR.trans (by simp only [f_X1_isTold, if_neg c3, if_neg c14]))
    · skip
      refine lv_iload_n hx hb dX1_isTold_17 rfl (lv_at hl 1 rfl) ?_
      refine lv_iload_n hx hb dX1_isTold_18 rfl (lv_at hl 1 rfl) ?_
      refine lv_imul hx hb dX1_isTold_19 ?_
      refine lv_goto (tgt := 24) hx hb dX1_isTold_20 (by decide) ?_
      exact J24 (p0 * p0) ls _ _ (lv_sub hl [0, 1, 2, 3, 4] rfl) hS hP hD (hR.trans (by simp only [f_X1_isTold, if_neg c3, if_pos c14]))
  · skip
    refine lv_iconst (v := 1) hx hb dX1_isTold_6 (by decide) ?_
    refine lv_goto (tgt := 24) hx hb dX1_isTold_7 (by decide) ?_
    exact J24 1 ls _ _ (lv_sub hl [0, 1, 2, 3, 4] rfl) hS hP hD (hR.trans (by simp only [f_X1_isTold, if_pos c3]))

def g_X1_isTold__37 (T : pT) (p1 : Int32) (w12_0 : Int64) (w37_0 : Int32) : Int32 × pT := (match f_X1_isTold T w37_0 (w12_0 >>> (((f_X1_twosOf w12_0) : Int32).toInt64 &&& 63)) (f_X1_twosOf w12_0) p1 with | (r44, u44) => (r44, u44))
def g_X1_isTold__12 (T : pT) (p0 : Int32) (p1 : Int32) (w12_0 : Int64) : Int32 × pT := (if (0 : Int32) ≤ p0 then (if (p0 : Int32) ≤ 0 then (g_X1_isTold__37 T p1 w12_0 0) else (g_X1_isTold__37 T p1 w12_0 1)) else (g_X1_isTold__37 T p1 w12_0 (-1)))
def f_X1_isTold_ (T : pT) (p0 : Int32) (p1 : Int32) : Int32 × pT := (if (0 : Int32) ≤ p0 then (g_X1_isTold__12 T p0 p1 ((p0 : Int32).toInt64)) else (g_X1_isTold__12 T p0 p1 (((-p0) : Int32).toInt64)))
set_option maxHeartbeats 4000000 in
set_option maxRecDepth 100000 in
theorem met_X1_isTold_ (l : Launch) (D : va_G) (cI cJ : ClassId) (bd : Nat → Nat) (A : Nat → Prop) (T : pT) (p0 : Int32) (p1 : Int32) : Met l yX1_isTold_ wsX1_isTold_ ({ frames := 1, cells := 0, slots := 0, locals := 26 } : Room) (va_Pc [.ref (bd 0), .int p0, .int p1] (fun U => b1R D cI cJ bd T U ∧ va_D A (mmW cI cJ bd T))) (va_Qi (fun (r : Int32) (u : pT) => f_X1_isTold_ T p0 p1 = (r, u) ∧ (r = 0 ∨ r = 1)) (fun (u : pT) t => va_P D pCl (mmW cI cJ bd u) t.heap ∧ va_D A (mmW cI cJ bd u)) A) 0 0 A := by
  refine Met.ofW (cc := cX1_isTold_) (maxL := 6) (ret := (some .boolean)) (by decide) rfl ?_
  intro p e s m args below meth c s₁ B hml hv
  obtain ⟨rfl, ⟨hP, hK⟩, hD⟩ := hv
  have hx := B.exec
  have hb := B.bytes
  have hr := B.returns
  have hts := atoms_spec (ws := wsX1_isTold_) B.pre
  have hown : s.vm.findClass RX1 = some m.cls := findClass_of_methodNamed B.named
  have hlocks := B.notSynchronized
  have hS : va_S A s.heap s.heap [] := va_S.rf
  have hl := lv_entry ([.ref (bd 0), .int p0, .int p1]) (n := 6) (Nat.le_of_ble_eq_true rfl)
  rw [lg_entry_eq]
  generalize (lg_sl ([.ref (bd 0), .int p0, .int p1]) ++ List.replicate (6 - (lg_sl ([.ref (bd 0), .int p0, .int p1])).length) Slot.unset).toArray = ls at hl ⊢
  have hl : lv_has ls 6 [(0, .ref (bd 0)), (1, .int p0), (2, .int p1)] := hl
  obtain ⟨Q, hQ⟩ : ∃ Q : State → Prop, Q = (MQ below (va_Qi (fun (r : Int32) (u : pT) => f_X1_isTold_ T p0 p1 = (r, u) ∧ (r = 0 ∨ r = 1)) (fun (u : pT) t => va_P D pCl (mmW cI cJ bd u) t.heap ∧ va_D A (mmW cI cJ bd u)) A) ([.ref (bd 0), .int p0, .int p1] : List Value).toArray s 0 0 A) := ⟨_, rfl⟩
  rw [← hQ]
  have hR : f_X1_isTold_ T p0 p1 = f_X1_isTold_ T p0 p1 := rfl
  refine lv_iload_n hx hb dX1_isTold__0 rfl (lv_at hl 1 rfl) ?_
  have J12 : ∀ (w12_0 : Int64) (ls : Array Slot) (H : Heap) (locs : List Loc), lv_has ls 6 [(0, .ref (bd 0)), (1, .int p0), (2, .int p1)] → va_S A s.heap H locs → va_P D pCl (mmW cI cJ bd T) H → va_D A (mmW cI cJ bd T) → f_X1_isTold_ T p0 p1 = g_X1_isTold__12 T p0 p1 w12_0 → W p l e (headSpec wsX1_isTold_ ({ frames := 1, cells := 0, slots := 0, locals := 26 } : Room)).room s m ([.ref (bd 0), .int p0, .int p1] : List Value).toArray below meth c H locs 0 0 Q (F0 m 12 ls [.long w12_0]) := by
    intro w12_0 ls H locs hl hS hP hD hR
    refine lv_lstore_n (lv' := [(3, .long w12_0), (0, .ref (bd 0)), (1, .int p0), (2, .int p1)]) hx hb dX1_isTold__12 rfl hl (by decide) rfl (fun ls hl => ?_)
    refine lv_lload_n hx hb dX1_isTold__13 rfl (lv_at hl 0 rfl) ?_
    refine va_calli (va_runS (As := [.long w12_0]) (rest := []) ⟨hx, hb, hml, hown, hts⟩ (met_X1_twosOf l w12_0) (va_cwS 1 hts gX1_isTold__X1_twosOf rfl rfl rfl (by decide +kernel) ⟨Nat.le_of_ble_eq_true rfl, Nat.le_of_ble_eq_true rfl⟩) ⟨fun a U g mk q => q, fun U hU hW => ⟨rfl, trivial⟩⟩ rfl rfl hl.1 rfl (lv_room (Nat.le_of_ble_eq_true rfl)) dX1_isTold__14 ⟨Nat.le_of_ble_eq_true rfl, Nat.le_of_ble_eq_true rfl⟩) hS (fun q _ h => h.elim) (fun q h => h.elim) (fun r14 u14 t H locs ht hvm hw14 hB hz hk hS => ?_)
    subst hw14
    have hP := hP.kept (fun k q hk9 => hk _ (vx_lt hP hk9) (fun h => h))
    refine lv_istore (lv' := [(5, .int (f_X1_twosOf w12_0)), (3, .long w12_0), (0, .ref (bd 0)), (1, .int p0), (2, .int p1)]) hx hb dX1_isTold__17 hl (by decide) rfl (fun ls hl => ?_)
    refine lv_aload_n hx hb dX1_isTold__19 rfl (lv_at hl 2 rfl) ?_
    refine lv_iload_n hx hb dX1_isTold__20 rfl (lv_at hl 3 rfl) ?_
    have J37 : ∀ (w37_0 : Int32) (ls : Array Slot) (H : Heap) (locs : List Loc), lv_has ls 6 [(0, .ref (bd 0)), (1, .int p0), (2, .int p1), (3, .long w12_0), (5, .int (f_X1_twosOf w12_0))] → va_S A s.heap H locs → va_P D pCl (mmW cI cJ bd T) H → va_D A (mmW cI cJ bd T) → f_X1_isTold_ T p0 p1 = g_X1_isTold__37 T p1 w12_0 w37_0 → W p l e (headSpec wsX1_isTold_ ({ frames := 1, cells := 0, slots := 0, locals := 26 } : Room)).room s m ([.ref (bd 0), .int p0, .int p1] : List Value).toArray below meth c H locs 0 0 Q (F0 m 37 ls [.int w37_0, .ref (bd 0)]) := by
      intro w37_0 ls H locs hl hS hP hD hR
      refine lv_lload_n hx hb dX1_isTold__37 rfl (lv_at hl 3 rfl) ?_
      refine lv_iload hx hb dX1_isTold__38 (lv_at hl 4 rfl) ?_
      refine lv_lshr hx hb dX1_isTold__40 rfl ?_
      refine lv_iload hx hb dX1_isTold__41 (lv_at hl 4 rfl) ?_
      refine lv_iload_n hx hb dX1_isTold__43 rfl (lv_at hl 2 rfl) ?_
      refine va_calli (va_runV (As := [.int w37_0, .long (w12_0 >>> (((f_X1_twosOf w12_0) : Int32).toInt64 &&& 63)), .int (f_X1_twosOf w12_0), .int p1]) (rest := []) ⟨hx, hb, hml, hown, hts⟩ (met_X1_isTold l D cI cJ bd A T w37_0 (w12_0 >>> (((f_X1_twosOf w12_0) : Int32).toInt64 &&& 63)) (f_X1_twosOf w12_0) p1) (cwV 4 hts gX1_isTold__X1_isTold rfl rfl rfl (by decide +kernel) ⟨Nat.le_of_ble_eq_true rfl, Nat.le_of_ble_eq_true rfl⟩) ⟨fun a U g mk q => ⟨q.1, b1R_calling q.2.1, q.2.2⟩, va_recv hK hP (ci := 1) (q0 := 0) rfl rfl, fun U hU hW => ⟨rfl, b1R_at hP hK hU hW, hD⟩⟩ rfl rfl hl.1 rfl (lv_room (Nat.le_of_ble_eq_true rfl)) dX1_isTold__44 ⟨Nat.le_of_ble_eq_true rfl, Nat.le_of_ble_eq_true rfl⟩) hS (fun q _ h => h) (fun q h => h) (fun r44 u44 t H locs ht hvm hw44 hB hz hk hS => ?_)
      obtain ⟨hw44, bz44⟩ := hw44
      obtain ⟨hP, hD⟩ := hB
      rw [ht] at hP
      rw [hQ]
      exact W.zret (ty := .boolean) (v := r44) hx hb hr (nbool bz44) (fun t ht hW => ⟨⟨r44, u44, rfl, ⟨(hR.trans (by simp only [g_X1_isTold__37, hw44])), bz44⟩, by rw [ht]; exact hP, hD⟩, hS.F ht⟩) hS.2.2 dX1_isTold__47
    refine lv_if_ge (tgt := 28) hx hb dX1_isTold__21 (by decide) (fun c21 => ?_) (fun c21 => ?_)
    · skip
      refine lv_iload_n hx hb dX1_isTold__28 rfl (lv_at hl 3 rfl) ?_
      refine lv_if_le (tgt := 36) hx hb dX1_isTold__29 (by decide) (fun c29 => ?_) (fun c29 => ?_)
      · skip
        refine lv_iconst (v := 0) hx hb dX1_isTold__36 (by decide) ?_
        exact J37 0 ls _ _ (lv_sub hl [2, 3, 4, 1, 0] rfl) hS hP hD (hR.trans (by simp only [g_X1_isTold__12, if_pos c21, if_pos c29]))
      · skip
        refine lv_iconst (v := 1) hx hb dX1_isTold__32 (by decide) ?_
        refine lv_goto (tgt := 37) hx hb dX1_isTold__33 (by decide) ?_
        exact J37 1 ls _ _ (lv_sub hl [2, 3, 4, 1, 0] rfl) hS hP hD (hR.trans (by simp only [g_X1_isTold__12, if_pos c21, if_neg c29]))
    · skip
      refine lv_iconst (v := (-1)) hx hb dX1_isTold__24 (by decide) ?_
      refine lv_goto (tgt := 37) hx hb dX1_isTold__25 (by decide) ?_
      exact J37 (-1) ls _ _ (lv_sub hl [2, 3, 4, 1, 0] rfl) hS hP hD (hR.trans (by simp only [g_X1_isTold__12, if_neg c21]))
  refine lv_if_ge (tgt := 10) hx hb dX1_isTold__1 (by decide) (fun c1 => ?_) (fun c1 => ?_)
  · skip
    refine lv_iload_n hx hb dX1_isTold__10 rfl (lv_at hl 1 rfl) ?_
    refine lv_i2l hx hb dX1_isTold__11 rfl ?_
    exact J12 ((p0 : Int32).toInt64) ls _ _ (lv_sub hl [0, 1, 2] rfl) hS hP hD (hR.trans (by simp only [f_X1_isTold_, if_pos c1]))
  · skip
    refine lv_iload_n hx hb dX1_isTold__4 rfl (lv_at hl 1 rfl) ?_
    refine lv_ineg hx hb dX1_isTold__5 ?_
    refine lv_i2l hx hb dX1_isTold__6 rfl ?_
    refine lv_goto (tgt := 12) hx hb dX1_isTold__7 (by decide) ?_
    exact J12 (((-p0) : Int32).toInt64) ls _ _ (lv_sub hl [0, 1, 2] rfl) hS hP hD (hR.trans (by simp only [f_X1_isTold_, if_neg c1]))

def f_X1_isPowerNear (T : pT) : Int32 := (if ((phT T) : Int32) < 0 then 0 else (if (53 : Int32) < ((f_X1_lengthOf (poT T)) + (phT T)) then 0 else 1))
set_option maxHeartbeats 4000000 in
set_option maxRecDepth 100000 in
theorem met_X1_isPowerNear (l : Launch) (D : va_G) (cI cJ : ClassId) (bd : Nat → Nat) (T : pT) : Met l yX1_isPowerNear wsX1_isPowerNear ({ frames := 1, cells := 0, slots := 0, locals := 24 } : Room) (va_Pc [.ref (bd 0)] (fun U => b1R D cI cJ bd T U)) (va_Qi (fun (r : Int32) (u : Unit) => f_X1_isPowerNear T = r ∧ (r = 0 ∨ r = 1)) (fun _ _ => True) (fun _ => False)) 0 0 (fun _ => False) := by
  refine Met.ofW (cc := cX1_isPowerNear) (maxL := 1) (ret := (some .boolean)) (by decide) rfl ?_
  intro p e s m args below meth c s₁ B hml hv
  obtain ⟨rfl, ⟨hP, hK⟩⟩ := hv
  have hx := B.exec
  have hb := B.bytes
  have hr := B.returns
  have hts := atoms_spec (ws := wsX1_isPowerNear) B.pre
  have hown : s.vm.findClass RX1 = some m.cls := findClass_of_methodNamed B.named
  have hlocks := B.notSynchronized
  have hS : va_S (fun _ => False) s.heap s.heap [] := va_S.rf
  have hin : ∀ w ∈ wsX10, w ∈ wsX1_isPowerNear := by decide +kernel
  have hf54 := hts (.fieldLink RX1 54 "PowermillModel" "powerOdd" "J") (by decide +kernel)
  have hf58 := hts (.fieldLink RX1 58 "PowermillModel" "powerShift" "I") (by decide +kernel)
  have hl := lv_entry ([.ref (bd 0)]) (n := 1) (Nat.le_of_ble_eq_true rfl)
  rw [lg_entry_eq]
  generalize (lg_sl ([.ref (bd 0)]) ++ List.replicate (1 - (lg_sl ([.ref (bd 0)])).length) Slot.unset).toArray = ls at hl ⊢
  have hl : lv_has ls 1 [(0, .ref (bd 0))] := hl
  obtain ⟨Q, hQ⟩ : ∃ Q : State → Prop, Q = (MQ below (va_Qi (fun (r : Int32) (u : Unit) => f_X1_isPowerNear T = r ∧ (r = 0 ∨ r = 1)) (fun _ _ => True) (fun _ => False)) ([.ref (bd 0)] : List Value).toArray s 0 0 (fun _ => False)) := ⟨_, rfl⟩
  rw [← hQ]
  have hR : f_X1_isPowerNear T = f_X1_isPowerNear T := rfl
  refine lv_aload_n hx hb dX1_isPowerNear_0 rfl (lv_at hl 0 rfl) ?_
  refine va_get (D := D) (ci := 1) (v := .int (phT T)) (C := RX1) (T := TX1) (N := 12) hx hb hts hin hown hK hP 0 rfl rfl 10 (by decide) hf58 (fun _ h9 => h9) rfl dX1_isPowerNear_1 ?_
  refine lv_if_lt (tgt := 28) hx hb dX1_isPowerNear_4 (by decide) (fun c4 => ?_) (fun c4 => ?_)
  · skip
    refine lv_iconst (v := 0) hx hb dX1_isPowerNear_28 (by decide) ?_
    rw [hQ]
    exact W.zret (ty := .boolean) (v := 0) hx hb hr (nbool (Or.inl rfl)) (fun t ht hW => ⟨⟨0, (), rfl, ⟨(hR.trans (by simp only [f_X1_isPowerNear, if_pos c4])), (Or.inl rfl)⟩, trivial⟩, hS.F ht⟩) hS.2.2 dX1_isPowerNear_29
  · skip
    refine lv_aload_n hx hb dX1_isPowerNear_7 rfl (lv_at hl 0 rfl) ?_
    refine va_get (D := D) (ci := 1) (v := .long (poT T)) (C := RX1) (T := TX1) (N := 12) hx hb hts hin hown hK hP 0 rfl rfl 9 (by decide) hf54 (fun _ h9 => h9) rfl dX1_isPowerNear_8 ?_
    refine va_calli (va_runS (As := [.long (poT T)]) (rest := []) ⟨hx, hb, hml, hown, hts⟩ (met_X1_lengthOf l (poT T)) (va_cwS 1 hts gX1_isPowerNear_X1_lengthOf rfl rfl rfl (by decide +kernel) ⟨Nat.le_of_ble_eq_true rfl, Nat.le_of_ble_eq_true rfl⟩) ⟨fun a U g mk q => q, fun U hU hW => ⟨rfl, trivial⟩⟩ rfl rfl hl.1 rfl (lv_room (Nat.le_of_ble_eq_true rfl)) dX1_isPowerNear_11 ⟨Nat.le_of_ble_eq_true rfl, Nat.le_of_ble_eq_true rfl⟩) hS (fun q _ h => h.elim) (fun q h => h.elim) (fun r11 u11 t H locs ht hvm hw11 hB hz hk hS => ?_)
    subst hw11
    have hP := hP.kept (fun k q hk9 => hk _ (vx_lt hP hk9) (fun h => h))
    refine lv_aload_n hx hb dX1_isPowerNear_14 rfl (lv_at hl 0 rfl) ?_
    refine va_get (D := D) (ci := 1) (v := .int (phT T)) (C := RX1) (T := TX1) (N := 12) hx hb hts hin hown hK hP 0 rfl rfl 10 (by decide) hf58 (fun _ h9 => h9) rfl dX1_isPowerNear_15 ?_
    refine lv_iadd hx hb dX1_isPowerNear_18 ?_
    refine lv_bipush (v := 53) hx hb dX1_isPowerNear_19 (by decide) ?_
    refine lv_icmp_gt (tgt := 28) hx hb dX1_isPowerNear_21 (by decide) (fun c21 => ?_) (fun c21 => ?_)
    · skip
      refine lv_iconst (v := 0) hx hb dX1_isPowerNear_28 (by decide) ?_
      rw [hQ]
      exact W.zret (ty := .boolean) (v := 0) hx hb hr (nbool (Or.inl rfl)) (fun t ht hW => ⟨⟨0, (), rfl, ⟨(hR.trans (by simp only [f_X1_isPowerNear, if_neg c4, if_pos c21])), (Or.inl rfl)⟩, trivial⟩, hS.F ht⟩) hS.2.2 dX1_isPowerNear_29
    · skip
      refine lv_iconst (v := 1) hx hb dX1_isPowerNear_24 (by decide) ?_
      refine lv_goto (tgt := 29) hx hb dX1_isPowerNear_25 (by decide) ?_
      rw [hQ]
      exact W.zret (ty := .boolean) (v := 1) hx hb hr (nbool (Or.inr rfl)) (fun t ht hW => ⟨⟨1, (), rfl, ⟨(hR.trans (by simp only [f_X1_isPowerNear, if_neg c4, if_neg c21])), (Or.inr rfl)⟩, trivial⟩, hS.F ht⟩) hS.2.2 dX1_isPowerNear_29

def f_X1_powerWhole (T : pT) : Int64 := (((psT T : Int32).toInt64) * ((poT T) <<< ((phT T : Int32).toInt64 &&& 63)))
set_option maxHeartbeats 4000000 in
set_option maxRecDepth 100000 in
theorem met_X1_powerWhole (l : Launch) (D : va_G) (cI cJ : ClassId) (bd : Nat → Nat) (T : pT) : Met l yX1_powerWhole wsX1_powerWhole ({ frames := 0, cells := 0, slots := 0, locals := 0 } : Room) (va_Pc [.ref (bd 0)] (fun U => b1R D cI cJ bd T U)) (va_Ql (fun (r : Int64) (u : Unit) => f_X1_powerWhole T = r) (fun _ _ => True) (fun _ => False)) 0 0 (fun _ => False) := by
  refine Met.ofW (cc := cX1_powerWhole) (maxL := 1) (ret := (some .long)) (by decide) rfl ?_
  intro p e s m args below meth c s₁ B hml hv
  obtain ⟨rfl, ⟨hP, hK⟩⟩ := hv
  have hx := B.exec
  have hb := B.bytes
  have hr := B.returns
  have hts := atoms_spec (ws := wsX1_powerWhole) B.pre
  have hown : s.vm.findClass RX1 = some m.cls := findClass_of_methodNamed B.named
  have hlocks := B.notSynchronized
  have hS : va_S (fun _ => False) s.heap s.heap [] := va_S.rf
  have hin : ∀ w ∈ wsX10, w ∈ wsX1_powerWhole := by decide +kernel
  have hf51 := hts (.fieldLink RX1 51 "PowermillModel" "powerSign" "I") (by decide +kernel)
  have hf54 := hts (.fieldLink RX1 54 "PowermillModel" "powerOdd" "J") (by decide +kernel)
  have hf58 := hts (.fieldLink RX1 58 "PowermillModel" "powerShift" "I") (by decide +kernel)
  have hl := lv_entry ([.ref (bd 0)]) (n := 1) (Nat.le_of_ble_eq_true rfl)
  rw [lg_entry_eq]
  generalize (lg_sl ([.ref (bd 0)]) ++ List.replicate (1 - (lg_sl ([.ref (bd 0)])).length) Slot.unset).toArray = ls at hl ⊢
  have hl : lv_has ls 1 [(0, .ref (bd 0))] := hl
  obtain ⟨Q, hQ⟩ : ∃ Q : State → Prop, Q = (MQ below (va_Ql (fun (r : Int64) (u : Unit) => f_X1_powerWhole T = r) (fun _ _ => True) (fun _ => False)) ([.ref (bd 0)] : List Value).toArray s 0 0 (fun _ => False)) := ⟨_, rfl⟩
  rw [← hQ]
  have hR : f_X1_powerWhole T = f_X1_powerWhole T := rfl
  refine lv_aload_n hx hb dX1_powerWhole_0 rfl (lv_at hl 0 rfl) ?_
  refine va_get (D := D) (ci := 1) (v := .int (psT T)) (C := RX1) (T := TX1) (N := 12) hx hb hts hin hown hK hP 0 rfl rfl 8 (by decide) hf51 (fun _ h9 => h9) rfl dX1_powerWhole_1 ?_
  refine lv_i2l hx hb dX1_powerWhole_4 rfl ?_
  refine lv_aload_n hx hb dX1_powerWhole_5 rfl (lv_at hl 0 rfl) ?_
  refine va_get (D := D) (ci := 1) (v := .long (poT T)) (C := RX1) (T := TX1) (N := 12) hx hb hts hin hown hK hP 0 rfl rfl 9 (by decide) hf54 (fun _ h9 => h9) rfl dX1_powerWhole_6 ?_
  refine lv_aload_n hx hb dX1_powerWhole_9 rfl (lv_at hl 0 rfl) ?_
  refine va_get (D := D) (ci := 1) (v := .int (phT T)) (C := RX1) (T := TX1) (N := 12) hx hb hts hin hown hK hP 0 rfl rfl 10 (by decide) hf58 (fun _ h9 => h9) rfl dX1_powerWhole_10 ?_
  refine lv_lshl hx hb dX1_powerWhole_13 rfl ?_
  refine lv_lmul hx hb dX1_powerWhole_14 ?_
  rw [hQ]
  exact W.lret (v := (((psT T : Int32).toInt64) * ((poT T) <<< ((phT T : Int32).toInt64 &&& 63)))) hx hb hr (fun t ht hW => ⟨⟨(((psT T : Int32).toInt64) * ((poT T) <<< ((phT T : Int32).toInt64 &&& 63))), (), rfl, (hR.trans (by simp only [f_X1_powerWhole])), trivial⟩, hS.F ht⟩) hS.2.2 dX1_powerWhole_15

def f_X1_isNear (T : pT) (p0 : Int32) : Int32 := (if (((shT T) p0.toNatClampNeg) : Int32) < 0 then 0 else (if (53 : Int32) < ((f_X1_lengthOf ((odT T) p0.toNatClampNeg)) + ((shT T) p0.toNatClampNeg)) then 0 else 1))
set_option maxHeartbeats 4000000 in
set_option maxRecDepth 100000 in
theorem met_X1_isNear (l : Launch) (D : va_G) (cI cJ : ClassId) (bd : Nat → Nat) (T : pT) (p0 : Int32) (h0 : vp_in p0 8) : Met l yX1_isNear wsX1_isNear ({ frames := 1, cells := 0, slots := 0, locals := 24 } : Room) (va_Pc [.ref (bd 0), .int p0] (fun U => b1R D cI cJ bd T U)) (va_Qi (fun (r : Int32) (u : Unit) => f_X1_isNear T p0 = r ∧ (r = 0 ∨ r = 1)) (fun _ _ => True) (fun _ => False)) 0 0 (fun _ => False) := by
  refine Met.ofW (cc := cX1_isNear) (maxL := 2) (ret := (some .boolean)) (by decide) rfl ?_
  intro p e s m args below meth c s₁ B hml hv
  obtain ⟨rfl, ⟨hP, hK⟩⟩ := hv
  have hx := B.exec
  have hb := B.bytes
  have hr := B.returns
  have hts := atoms_spec (ws := wsX1_isNear) B.pre
  have hown : s.vm.findClass RX1 = some m.cls := findClass_of_methodNamed B.named
  have hlocks := B.notSynchronized
  have hS : va_S (fun _ => False) s.heap s.heap [] := va_S.rf
  have hin : ∀ w ∈ wsX10, w ∈ wsX1_isNear := by decide +kernel
  have hf13 := hts (.fieldLink RX1 13 "PowermillModel" "odd" "[J") (by decide +kernel)
  have hf17 := hts (.fieldLink RX1 17 "PowermillModel" "shift" "[I") (by decide +kernel)
  have hl := lv_entry ([.ref (bd 0), .int p0]) (n := 2) (Nat.le_of_ble_eq_true rfl)
  rw [lg_entry_eq]
  generalize (lg_sl ([.ref (bd 0), .int p0]) ++ List.replicate (2 - (lg_sl ([.ref (bd 0), .int p0])).length) Slot.unset).toArray = ls at hl ⊢
  have hl : lv_has ls 2 [(0, .ref (bd 0)), (1, .int p0)] := hl
  obtain ⟨Q, hQ⟩ : ∃ Q : State → Prop, Q = (MQ below (va_Qi (fun (r : Int32) (u : Unit) => f_X1_isNear T p0 = r ∧ (r = 0 ∨ r = 1)) (fun _ _ => True) (fun _ => False)) ([.ref (bd 0), .int p0] : List Value).toArray s 0 0 (fun _ => False)) := ⟨_, rfl⟩
  rw [← hQ]
  have hR : f_X1_isNear T p0 = f_X1_isNear T p0 := rfl
  refine lv_aload_n hx hb dX1_isNear_0 rfl (lv_at hl 0 rfl) ?_
  refine va_get (D := D) (ci := 1) (v := .ref (bd 3)) (C := RX1) (T := TX1) (N := 12) hx hb hts hin hown hK hP 0 rfl rfl 2 (by decide) hf17 (fun _ h9 => h9) rfl dX1_isNear_1 ?_
  refine lv_iload_n hx hb dX1_isNear_4 rfl (lv_at hl 1 rfl) ?_
  refine va_iald hx hb hK hP 3 0 rfl rfl h0 dX1_isNear_5 ?_
  refine lv_if_lt (tgt := 34) hx hb dX1_isNear_6 (by decide) (fun c6 => ?_) (fun c6 => ?_)
  · skip
    refine lv_iconst (v := 0) hx hb dX1_isNear_34 (by decide) ?_
    rw [hQ]
    exact W.zret (ty := .boolean) (v := 0) hx hb hr (nbool (Or.inl rfl)) (fun t ht hW => ⟨⟨0, (), rfl, ⟨(hR.trans (by simp only [f_X1_isNear, if_pos c6])), (Or.inl rfl)⟩, trivial⟩, hS.F ht⟩) hS.2.2 dX1_isNear_35
  · skip
    refine lv_aload_n hx hb dX1_isNear_9 rfl (lv_at hl 0 rfl) ?_
    refine va_get (D := D) (ci := 1) (v := .ref (bd 2)) (C := RX1) (T := TX1) (N := 12) hx hb hts hin hown hK hP 0 rfl rfl 1 (by decide) hf13 (fun _ h9 => h9) rfl dX1_isNear_10 ?_
    refine lv_iload_n hx hb dX1_isNear_13 rfl (lv_at hl 1 rfl) ?_
    refine va_lald hx hb hK hP 2 1 rfl rfl h0 dX1_isNear_14 ?_
    refine va_calli (va_runS (As := [.long ((odT T) p0.toNatClampNeg)]) (rest := []) ⟨hx, hb, hml, hown, hts⟩ (met_X1_lengthOf l ((odT T) p0.toNatClampNeg)) (va_cwS 1 hts gX1_isNear_X1_lengthOf rfl rfl rfl (by decide +kernel) ⟨Nat.le_of_ble_eq_true rfl, Nat.le_of_ble_eq_true rfl⟩) ⟨fun a U g mk q => q, fun U hU hW => ⟨rfl, trivial⟩⟩ rfl rfl hl.1 rfl (lv_room (Nat.le_of_ble_eq_true rfl)) dX1_isNear_15 ⟨Nat.le_of_ble_eq_true rfl, Nat.le_of_ble_eq_true rfl⟩) hS (fun q _ h => h.elim) (fun q h => h.elim) (fun r15 u15 t H locs ht hvm hw15 hB hz hk hS => ?_)
    subst hw15
    have hP := hP.kept (fun k q hk9 => hk _ (vx_lt hP hk9) (fun h => h))
    refine lv_aload_n hx hb dX1_isNear_18 rfl (lv_at hl 0 rfl) ?_
    refine va_get (D := D) (ci := 1) (v := .ref (bd 3)) (C := RX1) (T := TX1) (N := 12) hx hb hts hin hown hK hP 0 rfl rfl 2 (by decide) hf17 (fun _ h9 => h9) rfl dX1_isNear_19 ?_
    refine lv_iload_n hx hb dX1_isNear_22 rfl (lv_at hl 1 rfl) ?_
    refine va_iald hx hb hK hP 3 0 rfl rfl h0 dX1_isNear_23 ?_
    refine lv_iadd hx hb dX1_isNear_24 ?_
    refine lv_bipush (v := 53) hx hb dX1_isNear_25 (by decide) ?_
    refine lv_icmp_gt (tgt := 34) hx hb dX1_isNear_27 (by decide) (fun c27 => ?_) (fun c27 => ?_)
    · skip
      refine lv_iconst (v := 0) hx hb dX1_isNear_34 (by decide) ?_
      rw [hQ]
      exact W.zret (ty := .boolean) (v := 0) hx hb hr (nbool (Or.inl rfl)) (fun t ht hW => ⟨⟨0, (), rfl, ⟨(hR.trans (by simp only [f_X1_isNear, if_neg c6, if_pos c27])), (Or.inl rfl)⟩, trivial⟩, hS.F ht⟩) hS.2.2 dX1_isNear_35
    · skip
      refine lv_iconst (v := 1) hx hb dX1_isNear_30 (by decide) ?_
      refine lv_goto (tgt := 35) hx hb dX1_isNear_31 (by decide) ?_
      rw [hQ]
      exact W.zret (ty := .boolean) (v := 1) hx hb hr (nbool (Or.inr rfl)) (fun t ht hW => ⟨⟨1, (), rfl, ⟨(hR.trans (by simp only [f_X1_isNear, if_neg c6, if_neg c27])), (Or.inr rfl)⟩, trivial⟩, hS.F ht⟩) hS.2.2 dX1_isNear_35

def f_X1_sizeOf (T : pT) (p0 : Int32) : Int64 := (((odT T) p0.toNatClampNeg) <<< ((((shT T) p0.toNatClampNeg) : Int32).toInt64 &&& 63))
set_option maxHeartbeats 4000000 in
set_option maxRecDepth 100000 in
theorem met_X1_sizeOf (l : Launch) (D : va_G) (cI cJ : ClassId) (bd : Nat → Nat) (T : pT) (p0 : Int32) (h0 : vp_in p0 8) : Met l yX1_sizeOf wsX1_sizeOf ({ frames := 0, cells := 0, slots := 0, locals := 0 } : Room) (va_Pc [.ref (bd 0), .int p0] (fun U => b1R D cI cJ bd T U)) (va_Ql (fun (r : Int64) (u : Unit) => f_X1_sizeOf T p0 = r) (fun _ _ => True) (fun _ => False)) 0 0 (fun _ => False) := by
  refine Met.ofW (cc := cX1_sizeOf) (maxL := 2) (ret := (some .long)) (by decide) rfl ?_
  intro p e s m args below meth c s₁ B hml hv
  obtain ⟨rfl, ⟨hP, hK⟩⟩ := hv
  have hx := B.exec
  have hb := B.bytes
  have hr := B.returns
  have hts := atoms_spec (ws := wsX1_sizeOf) B.pre
  have hown : s.vm.findClass RX1 = some m.cls := findClass_of_methodNamed B.named
  have hlocks := B.notSynchronized
  have hS : va_S (fun _ => False) s.heap s.heap [] := va_S.rf
  have hin : ∀ w ∈ wsX10, w ∈ wsX1_sizeOf := by decide +kernel
  have hf13 := hts (.fieldLink RX1 13 "PowermillModel" "odd" "[J") (by decide +kernel)
  have hf17 := hts (.fieldLink RX1 17 "PowermillModel" "shift" "[I") (by decide +kernel)
  have hl := lv_entry ([.ref (bd 0), .int p0]) (n := 2) (Nat.le_of_ble_eq_true rfl)
  rw [lg_entry_eq]
  generalize (lg_sl ([.ref (bd 0), .int p0]) ++ List.replicate (2 - (lg_sl ([.ref (bd 0), .int p0])).length) Slot.unset).toArray = ls at hl ⊢
  have hl : lv_has ls 2 [(0, .ref (bd 0)), (1, .int p0)] := hl
  obtain ⟨Q, hQ⟩ : ∃ Q : State → Prop, Q = (MQ below (va_Ql (fun (r : Int64) (u : Unit) => f_X1_sizeOf T p0 = r) (fun _ _ => True) (fun _ => False)) ([.ref (bd 0), .int p0] : List Value).toArray s 0 0 (fun _ => False)) := ⟨_, rfl⟩
  rw [← hQ]
  have hR : f_X1_sizeOf T p0 = f_X1_sizeOf T p0 := rfl
  refine lv_aload_n hx hb dX1_sizeOf_0 rfl (lv_at hl 0 rfl) ?_
  refine va_get (D := D) (ci := 1) (v := .ref (bd 2)) (C := RX1) (T := TX1) (N := 12) hx hb hts hin hown hK hP 0 rfl rfl 1 (by decide) hf13 (fun _ h9 => h9) rfl dX1_sizeOf_1 ?_
  refine lv_iload_n hx hb dX1_sizeOf_4 rfl (lv_at hl 1 rfl) ?_
  refine va_lald hx hb hK hP 2 1 rfl rfl h0 dX1_sizeOf_5 ?_
  refine lv_aload_n hx hb dX1_sizeOf_6 rfl (lv_at hl 0 rfl) ?_
  refine va_get (D := D) (ci := 1) (v := .ref (bd 3)) (C := RX1) (T := TX1) (N := 12) hx hb hts hin hown hK hP 0 rfl rfl 2 (by decide) hf17 (fun _ h9 => h9) rfl dX1_sizeOf_7 ?_
  refine lv_iload_n hx hb dX1_sizeOf_10 rfl (lv_at hl 1 rfl) ?_
  refine va_iald hx hb hK hP 3 0 rfl rfl h0 dX1_sizeOf_11 ?_
  refine lv_lshl hx hb dX1_sizeOf_12 rfl ?_
  rw [hQ]
  exact W.lret (v := (((odT T) p0.toNatClampNeg) <<< ((((shT T) p0.toNatClampNeg) : Int32).toInt64 &&& 63))) hx hb hr (fun t ht hW => ⟨⟨(((odT T) p0.toNatClampNeg) <<< ((((shT T) p0.toNatClampNeg) : Int32).toInt64 &&& 63)), (), rfl, (hR.trans (by simp only [f_X1_sizeOf])), trivial⟩, hS.F ht⟩) hS.2.2 dX1_sizeOf_13

def g_X1_sizes_92n (x78 : Int64) (x92 : Int64) : Int32 := (if (x78 : Int64) ≤ x92 then (if (x92 : Int64) ≤ x78 then 0 else (-1)) else 1)
def g_X1_sizes_78n (T : pT) (p1 : Int32) (x78 : Int64) : Int32 := (g_X1_sizes_92n x78 (((odT T) p1.toNatClampNeg) <<< (((53 - (f_X1_lengthOf ((odT T) p1.toNatClampNeg))) : Int32).toInt64 &&& 63)))
def f_X1_sizes (T : pT) (p0 : Int32) (p1 : Int32) : Int32 := (if (((f_X1_lengthOf ((odT T) p0.toNatClampNeg)) + ((shT T) p0.toNatClampNeg)) : Int32) = ((f_X1_lengthOf ((odT T) p1.toNatClampNeg)) + ((shT T) p1.toNatClampNeg)) then (g_X1_sizes_78n T p1 (((odT T) p0.toNatClampNeg) <<< (((53 - (f_X1_lengthOf ((odT T) p0.toNatClampNeg))) : Int32).toInt64 &&& 63))) else (if (((f_X1_lengthOf ((odT T) p0.toNatClampNeg)) + ((shT T) p0.toNatClampNeg)) : Int32) ≤ ((f_X1_lengthOf ((odT T) p1.toNatClampNeg)) + ((shT T) p1.toNatClampNeg)) then (-1) else 1))
set_option maxHeartbeats 4000000 in
set_option maxRecDepth 100000 in
theorem met_X1_sizes (l : Launch) (D : va_G) (cI cJ : ClassId) (bd : Nat → Nat) (T : pT) (p0 : Int32) (p1 : Int32) (h0 : vp_in p0 8) (h1 : vp_in p1 8) : Met l yX1_sizes wsX1_sizes ({ frames := 1, cells := 0, slots := 0, locals := 24 } : Room) (va_Pc [.ref (bd 0), .int p0, .int p1] (fun U => b1R D cI cJ bd T U)) (va_Qi (fun (r : Int32) (u : Unit) => f_X1_sizes T p0 p1 = r) (fun _ _ => True) (fun _ => False)) 0 0 (fun _ => False) := by
  refine Met.ofW (cc := cX1_sizes) (maxL := 9) (ret := (some .int)) (by decide) rfl ?_
  intro p e s m args below meth c s₁ B hml hv
  obtain ⟨rfl, ⟨hP, hK⟩⟩ := hv
  have hx := B.exec
  have hb := B.bytes
  have hr := B.returns
  have hts := atoms_spec (ws := wsX1_sizes) B.pre
  have hown : s.vm.findClass RX1 = some m.cls := findClass_of_methodNamed B.named
  have hlocks := B.notSynchronized
  have hS : va_S (fun _ => False) s.heap s.heap [] := va_S.rf
  have hin : ∀ w ∈ wsX10, w ∈ wsX1_sizes := by decide +kernel
  have hf13 := hts (.fieldLink RX1 13 "PowermillModel" "odd" "[J") (by decide +kernel)
  have hf17 := hts (.fieldLink RX1 17 "PowermillModel" "shift" "[I") (by decide +kernel)
  have hl := lv_entry ([.ref (bd 0), .int p0, .int p1]) (n := 9) (Nat.le_of_ble_eq_true rfl)
  rw [lg_entry_eq]
  generalize (lg_sl ([.ref (bd 0), .int p0, .int p1]) ++ List.replicate (9 - (lg_sl ([.ref (bd 0), .int p0, .int p1])).length) Slot.unset).toArray = ls at hl ⊢
  have hl : lv_has ls 9 [(0, .ref (bd 0)), (1, .int p0), (2, .int p1)] := hl
  obtain ⟨Q, hQ⟩ : ∃ Q : State → Prop, Q = (MQ below (va_Qi (fun (r : Int32) (u : Unit) => f_X1_sizes T p0 p1 = r) (fun _ _ => True) (fun _ => False)) ([.ref (bd 0), .int p0, .int p1] : List Value).toArray s 0 0 (fun _ => False)) := ⟨_, rfl⟩
  rw [← hQ]
  have hR : f_X1_sizes T p0 p1 = f_X1_sizes T p0 p1 := rfl
  refine lv_aload_n hx hb dX1_sizes_0 rfl (lv_at hl 0 rfl) ?_
  refine va_get (D := D) (ci := 1) (v := .ref (bd 2)) (C := RX1) (T := TX1) (N := 12) hx hb hts hin hown hK hP 0 rfl rfl 1 (by decide) hf13 (fun _ h9 => h9) rfl dX1_sizes_1 ?_
  refine lv_iload_n hx hb dX1_sizes_4 rfl (lv_at hl 1 rfl) ?_
  refine va_lald hx hb hK hP 2 1 rfl rfl h0 dX1_sizes_5 ?_
  refine va_calli (va_runS (As := [.long ((odT T) p0.toNatClampNeg)]) (rest := []) ⟨hx, hb, hml, hown, hts⟩ (met_X1_lengthOf l ((odT T) p0.toNatClampNeg)) (va_cwS 1 hts gX1_sizes_X1_lengthOf rfl rfl rfl (by decide +kernel) ⟨Nat.le_of_ble_eq_true rfl, Nat.le_of_ble_eq_true rfl⟩) ⟨fun a U g mk q => q, fun U hU hW => ⟨rfl, trivial⟩⟩ rfl rfl hl.1 rfl (lv_room (Nat.le_of_ble_eq_true rfl)) dX1_sizes_6 ⟨Nat.le_of_ble_eq_true rfl, Nat.le_of_ble_eq_true rfl⟩) hS (fun q _ h => h.elim) (fun q h => h.elim) (fun r6 u6 t H locs ht hvm hw6 hB hz hk hS => ?_)
  subst hw6
  have hP := hP.kept (fun k q hk9 => hk _ (vx_lt hP hk9) (fun h => h))
  refine lv_istore_n (lv' := [(3, .int (f_X1_lengthOf ((odT T) p0.toNatClampNeg))), (0, .ref (bd 0)), (1, .int p0), (2, .int p1)]) hx hb dX1_sizes_9 rfl hl (by decide) rfl (fun ls hl => ?_)
  refine lv_aload_n hx hb dX1_sizes_10 rfl (lv_at hl 1 rfl) ?_
  refine va_get (D := D) (ci := 1) (v := .ref (bd 2)) (C := RX1) (T := TX1) (N := 12) hx hb hts hin hown hK hP 0 rfl rfl 1 (by decide) hf13 (fun _ h9 => h9) rfl dX1_sizes_11 ?_
  refine lv_iload_n hx hb dX1_sizes_14 rfl (lv_at hl 3 rfl) ?_
  refine va_lald hx hb hK hP 2 1 rfl rfl h1 dX1_sizes_15 ?_
  refine va_calli (va_runS (As := [.long ((odT T) p1.toNatClampNeg)]) (rest := []) ⟨hx, hb, hml, hown, hts⟩ (met_X1_lengthOf l ((odT T) p1.toNatClampNeg)) (va_cwS 1 hts gX1_sizes_X1_lengthOf rfl rfl rfl (by decide +kernel) ⟨Nat.le_of_ble_eq_true rfl, Nat.le_of_ble_eq_true rfl⟩) ⟨fun a U g mk q => q, fun U hU hW => ⟨rfl, trivial⟩⟩ rfl rfl hl.1 rfl (lv_room (Nat.le_of_ble_eq_true rfl)) dX1_sizes_16 ⟨Nat.le_of_ble_eq_true rfl, Nat.le_of_ble_eq_true rfl⟩) hS (fun q _ h => h.elim) (fun q h => h.elim) (fun r16 u16 t H locs ht hvm hw16 hB hz hk hS => ?_)
  subst hw16
  have hP := hP.kept (fun k q hk9 => hk _ (vx_lt hP hk9) (fun h => h))
  refine lv_istore (lv' := [(4, .int (f_X1_lengthOf ((odT T) p1.toNatClampNeg))), (3, .int (f_X1_lengthOf ((odT T) p0.toNatClampNeg))), (0, .ref (bd 0)), (1, .int p0), (2, .int p1)]) hx hb dX1_sizes_19 hl (by decide) rfl (fun ls hl => ?_)
  refine lv_iload_n hx hb dX1_sizes_21 rfl (lv_at hl 1 rfl) ?_
  refine lv_aload_n hx hb dX1_sizes_22 rfl (lv_at hl 2 rfl) ?_
  refine va_get (D := D) (ci := 1) (v := .ref (bd 3)) (C := RX1) (T := TX1) (N := 12) hx hb hts hin hown hK hP 0 rfl rfl 2 (by decide) hf17 (fun _ h9 => h9) rfl dX1_sizes_23 ?_
  refine lv_iload_n hx hb dX1_sizes_26 rfl (lv_at hl 3 rfl) ?_
  refine va_iald hx hb hK hP 3 0 rfl rfl h0 dX1_sizes_27 ?_
  refine lv_iadd hx hb dX1_sizes_28 ?_
  refine lv_iload hx hb dX1_sizes_29 (lv_at hl 0 rfl) ?_
  refine lv_aload_n hx hb dX1_sizes_31 rfl (lv_at hl 2 rfl) ?_
  refine va_get (D := D) (ci := 1) (v := .ref (bd 3)) (C := RX1) (T := TX1) (N := 12) hx hb hts hin hown hK hP 0 rfl rfl 2 (by decide) hf17 (fun _ h9 => h9) rfl dX1_sizes_32 ?_
  refine lv_iload_n hx hb dX1_sizes_35 rfl (lv_at hl 4 rfl) ?_
  refine va_iald hx hb hK hP 3 0 rfl rfl h1 dX1_sizes_36 ?_
  refine lv_iadd hx hb dX1_sizes_37 ?_
  refine lv_icmp_eq (tgt := 67) hx hb dX1_sizes_38 (by decide) (fun c38 => ?_) (fun c38 => ?_)
  · skip
    refine lv_aload_n hx hb dX1_sizes_67 rfl (lv_at hl 2 rfl) ?_
    refine va_get (D := D) (ci := 1) (v := .ref (bd 2)) (C := RX1) (T := TX1) (N := 12) hx hb hts hin hown hK hP 0 rfl rfl 1 (by decide) hf13 (fun _ h9 => h9) rfl dX1_sizes_68 ?_
    refine lv_iload_n hx hb dX1_sizes_71 rfl (lv_at hl 3 rfl) ?_
    refine va_lald hx hb hK hP 2 1 rfl rfl h0 dX1_sizes_72 ?_
    refine lv_bipush (v := 53) hx hb dX1_sizes_73 (by decide) ?_
    refine lv_iload_n hx hb dX1_sizes_75 rfl (lv_at hl 1 rfl) ?_
    refine lv_isub hx hb dX1_sizes_76 ?_
    refine lv_lshl hx hb dX1_sizes_77 rfl ?_
    refine lv_topl (fun x78 ex78 => ?_)
    refine lv_lstore (lv' := [(5, .long x78), (4, .int (f_X1_lengthOf ((odT T) p1.toNatClampNeg))), (3, .int (f_X1_lengthOf ((odT T) p0.toNatClampNeg))), (0, .ref (bd 0)), (1, .int p0), (2, .int p1)]) hx hb dX1_sizes_78 hl (by decide) rfl (fun ls hl => ?_)
    have hR : f_X1_sizes T p0 p1 = g_X1_sizes_78n T p1 x78 := hR.trans (by simp only [f_X1_sizes, if_pos c38, ex78])
    refine lv_aload_n hx hb dX1_sizes_80 rfl (lv_at hl 3 rfl) ?_
    refine va_get (D := D) (ci := 1) (v := .ref (bd 2)) (C := RX1) (T := TX1) (N := 12) hx hb hts hin hown hK hP 0 rfl rfl 1 (by decide) hf13 (fun _ h9 => h9) rfl dX1_sizes_81 ?_
    refine lv_iload_n hx hb dX1_sizes_84 rfl (lv_at hl 5 rfl) ?_
    refine va_lald hx hb hK hP 2 1 rfl rfl h1 dX1_sizes_85 ?_
    refine lv_bipush (v := 53) hx hb dX1_sizes_86 (by decide) ?_
    refine lv_iload hx hb dX1_sizes_88 (lv_at hl 1 rfl) ?_
    refine lv_isub hx hb dX1_sizes_90 ?_
    refine lv_lshl hx hb dX1_sizes_91 rfl ?_
    refine lv_topl (fun x92 ex92 => ?_)
    refine lv_lstore (lv' := [(7, .long x92), (5, .long x78), (4, .int (f_X1_lengthOf ((odT T) p1.toNatClampNeg))), (3, .int (f_X1_lengthOf ((odT T) p0.toNatClampNeg))), (0, .ref (bd 0)), (1, .int p0), (2, .int p1)]) hx hb dX1_sizes_92 hl (by decide) rfl (fun ls hl => ?_)
    have hR : f_X1_sizes T p0 p1 = g_X1_sizes_92n x78 x92 := hR.trans (by simp only [g_X1_sizes_78n, ex92])
    refine lv_lload hx hb dX1_sizes_94 (lv_at hl 1 rfl) ?_
    refine lv_lload hx hb dX1_sizes_96 (lv_at hl 0 rfl) ?_
    refine W.lcmp hx hb dX1_sizes_98 ?_
    refine lv_if_le (tgt := 106) hx hb dX1_sizes_99 (by decide) (fun c98 => ?_) (fun c98 => ?_)
    · skip
      have c98 : (x78 : Int64) ≤ x92 := (lg_cmp_le _ _).mp c98
      refine lv_lload hx hb dX1_sizes_106 (lv_at hl 1 rfl) ?_
      refine lv_lload hx hb dX1_sizes_108 (lv_at hl 0 rfl) ?_
      refine W.lcmp hx hb dX1_sizes_110 ?_
      refine lv_if_ge (tgt := 118) hx hb dX1_sizes_111 (by decide) (fun c110 => ?_) (fun c110 => ?_)
      · skip
        have c110 : (x92 : Int64) ≤ x78 := (lg_cmp_ge _ _).mp c110
        refine lv_iconst (v := 0) hx hb dX1_sizes_118 (by decide) ?_
        rw [hQ]
        exact W.iret (v := 0) hx hb hr (fun t ht hW => ⟨⟨0, (), rfl, (hR.trans (by simp only [g_X1_sizes_92n, if_pos c98, if_pos c110])), trivial⟩, hS.F ht⟩) hS.2.2 dX1_sizes_119
      · skip
        have c110 : ¬ ((x92 : Int64) ≤ x78) := fun h => c110 ((lg_cmp_ge _ _).mpr h)
        refine lv_iconst (v := (-1)) hx hb dX1_sizes_114 (by decide) ?_
        refine lv_goto (tgt := 119) hx hb dX1_sizes_115 (by decide) ?_
        rw [hQ]
        exact W.iret (v := (-1)) hx hb hr (fun t ht hW => ⟨⟨(-1), (), rfl, (hR.trans (by simp only [g_X1_sizes_92n, if_pos c98, if_neg c110])), trivial⟩, hS.F ht⟩) hS.2.2 dX1_sizes_119
    · skip
      have c98 : ¬ ((x78 : Int64) ≤ x92) := fun h => c98 ((lg_cmp_le _ _).mpr h)
      refine lv_iconst (v := 1) hx hb dX1_sizes_102 (by decide) ?_
      refine lv_goto (tgt := 119) hx hb dX1_sizes_103 (by decide) ?_
      rw [hQ]
      exact W.iret (v := 1) hx hb hr (fun t ht hW => ⟨⟨1, (), rfl, (hR.trans (by simp only [g_X1_sizes_92n, if_neg c98])), trivial⟩, hS.F ht⟩) hS.2.2 dX1_sizes_119
  · skip
    refine lv_iload_n hx hb dX1_sizes_41 rfl (lv_at hl 1 rfl) ?_
    refine lv_aload_n hx hb dX1_sizes_42 rfl (lv_at hl 2 rfl) ?_
    refine va_get (D := D) (ci := 1) (v := .ref (bd 3)) (C := RX1) (T := TX1) (N := 12) hx hb hts hin hown hK hP 0 rfl rfl 2 (by decide) hf17 (fun _ h9 => h9) rfl dX1_sizes_43 ?_
    refine lv_iload_n hx hb dX1_sizes_46 rfl (lv_at hl 3 rfl) ?_
    refine va_iald hx hb hK hP 3 0 rfl rfl h0 dX1_sizes_47 ?_
    refine lv_iadd hx hb dX1_sizes_48 ?_
    refine lv_iload hx hb dX1_sizes_49 (lv_at hl 0 rfl) ?_
    refine lv_aload_n hx hb dX1_sizes_51 rfl (lv_at hl 2 rfl) ?_
    refine va_get (D := D) (ci := 1) (v := .ref (bd 3)) (C := RX1) (T := TX1) (N := 12) hx hb hts hin hown hK hP 0 rfl rfl 2 (by decide) hf17 (fun _ h9 => h9) rfl dX1_sizes_52 ?_
    refine lv_iload_n hx hb dX1_sizes_55 rfl (lv_at hl 4 rfl) ?_
    refine va_iald hx hb hK hP 3 0 rfl rfl h1 dX1_sizes_56 ?_
    refine lv_iadd hx hb dX1_sizes_57 ?_
    refine lv_icmp_le (tgt := 65) hx hb dX1_sizes_58 (by decide) (fun c58 => ?_) (fun c58 => ?_)
    · skip
      refine lv_iconst (v := (-1)) hx hb dX1_sizes_65 (by decide) ?_
      rw [hQ]
      exact W.iret (v := (-1)) hx hb hr (fun t ht hW => ⟨⟨(-1), (), rfl, (hR.trans (by simp only [f_X1_sizes, if_neg c38, if_pos c58])), trivial⟩, hS.F ht⟩) hS.2.2 dX1_sizes_66
    · skip
      refine lv_iconst (v := 1) hx hb dX1_sizes_61 (by decide) ?_
      refine lv_goto (tgt := 66) hx hb dX1_sizes_62 (by decide) ?_
      rw [hQ]
      exact W.iret (v := 1) hx hb hr (fun t ht hW => ⟨⟨1, (), rfl, (hR.trans (by simp only [f_X1_sizes, if_neg c38, if_neg c58])), trivial⟩, hS.F ht⟩) hS.2.2 dX1_sizes_66

def f_X1_order (T : pT) (p0 : Int32) (p1 : Int32) : Int32 := (if (((sgT T) p0.toNatClampNeg) : Int32) = ((sgT T) p1.toNatClampNeg) then (if (((sgT T) p0.toNatClampNeg) : Int32) = 0 then 0 else (((sgT T) p0.toNatClampNeg) * (f_X1_sizes T p0 p1))) else (if (((sgT T) p0.toNatClampNeg) : Int32) ≤ ((sgT T) p1.toNatClampNeg) then (-1) else 1))
set_option maxHeartbeats 4000000 in
set_option maxRecDepth 100000 in
theorem met_X1_order (l : Launch) (D : va_G) (cI cJ : ClassId) (bd : Nat → Nat) (T : pT) (p0 : Int32) (p1 : Int32) (h0 : vp_in p0 8) (h1 : vp_in p1 8) : Met l yX1_order wsX1_order ({ frames := 2, cells := 0, slots := 0, locals := 52 } : Room) (va_Pc [.ref (bd 0), .int p0, .int p1] (fun U => b1R D cI cJ bd T U)) (va_Qi (fun (r : Int32) (u : Unit) => f_X1_order T p0 p1 = r) (fun _ _ => True) (fun _ => False)) 0 0 (fun _ => False) := by
  refine Met.ofW (cc := cX1_order) (maxL := 3) (ret := (some .int)) (by decide) rfl ?_
  intro p e s m args below meth c s₁ B hml hv
  obtain ⟨rfl, ⟨hP, hK⟩⟩ := hv
  have hx := B.exec
  have hb := B.bytes
  have hr := B.returns
  have hts := atoms_spec (ws := wsX1_order) B.pre
  have hown : s.vm.findClass RX1 = some m.cls := findClass_of_methodNamed B.named
  have hlocks := B.notSynchronized
  have hS : va_S (fun _ => False) s.heap s.heap [] := va_S.rf
  have hin : ∀ w ∈ wsX10, w ∈ wsX1_order := by decide +kernel
  have hf9 := hts (.fieldLink RX1 9 "PowermillModel" "sign" "[I") (by decide +kernel)
  have hl := lv_entry ([.ref (bd 0), .int p0, .int p1]) (n := 3) (Nat.le_of_ble_eq_true rfl)
  rw [lg_entry_eq]
  generalize (lg_sl ([.ref (bd 0), .int p0, .int p1]) ++ List.replicate (3 - (lg_sl ([.ref (bd 0), .int p0, .int p1])).length) Slot.unset).toArray = ls at hl ⊢
  have hl : lv_has ls 3 [(0, .ref (bd 0)), (1, .int p0), (2, .int p1)] := hl
  obtain ⟨Q, hQ⟩ : ∃ Q : State → Prop, Q = (MQ below (va_Qi (fun (r : Int32) (u : Unit) => f_X1_order T p0 p1 = r) (fun _ _ => True) (fun _ => False)) ([.ref (bd 0), .int p0, .int p1] : List Value).toArray s 0 0 (fun _ => False)) := ⟨_, rfl⟩
  rw [← hQ]
  have hR : f_X1_order T p0 p1 = f_X1_order T p0 p1 := rfl
  refine lv_aload_n hx hb dX1_order_0 rfl (lv_at hl 0 rfl) ?_
  refine va_get (D := D) (ci := 1) (v := .ref (bd 1)) (C := RX1) (T := TX1) (N := 12) hx hb hts hin hown hK hP 0 rfl rfl 0 (by decide) hf9 (fun _ h9 => h9) rfl dX1_order_1 ?_
  refine lv_iload_n hx hb dX1_order_4 rfl (lv_at hl 1 rfl) ?_
  refine va_iald hx hb hK hP 1 0 rfl rfl h0 dX1_order_5 ?_
  refine lv_aload_n hx hb dX1_order_6 rfl (lv_at hl 0 rfl) ?_
  refine va_get (D := D) (ci := 1) (v := .ref (bd 1)) (C := RX1) (T := TX1) (N := 12) hx hb hts hin hown hK hP 0 rfl rfl 0 (by decide) hf9 (fun _ h9 => h9) rfl dX1_order_7 ?_
  refine lv_iload_n hx hb dX1_order_10 rfl (lv_at hl 2 rfl) ?_
  refine va_iald hx hb hK hP 1 0 rfl rfl h1 dX1_order_11 ?_
  refine lv_icmp_eq (tgt := 36) hx hb dX1_order_12 (by decide) (fun c12 => ?_) (fun c12 => ?_)
  · skip
    refine lv_aload_n hx hb dX1_order_36 rfl (lv_at hl 0 rfl) ?_
    refine va_get (D := D) (ci := 1) (v := .ref (bd 1)) (C := RX1) (T := TX1) (N := 12) hx hb hts hin hown hK hP 0 rfl rfl 0 (by decide) hf9 (fun _ h9 => h9) rfl dX1_order_37 ?_
    refine lv_iload_n hx hb dX1_order_40 rfl (lv_at hl 1 rfl) ?_
    refine va_iald hx hb hK hP 1 0 rfl rfl h0 dX1_order_41 ?_
    refine lv_if_ne (tgt := 49) hx hb dX1_order_42 (by decide) (fun c42 => ?_) (fun c42 => ?_)
    · skip
      refine lv_aload_n hx hb dX1_order_49 rfl (lv_at hl 0 rfl) ?_
      refine va_get (D := D) (ci := 1) (v := .ref (bd 1)) (C := RX1) (T := TX1) (N := 12) hx hb hts hin hown hK hP 0 rfl rfl 0 (by decide) hf9 (fun _ h9 => h9) rfl dX1_order_50 ?_
      refine lv_iload_n hx hb dX1_order_53 rfl (lv_at hl 1 rfl) ?_
      refine va_iald hx hb hK hP 1 0 rfl rfl h0 dX1_order_54 ?_
      refine lv_aload_n hx hb dX1_order_55 rfl (lv_at hl 0 rfl) ?_
      refine lv_iload_n hx hb dX1_order_56 rfl (lv_at hl 1 rfl) ?_
      refine lv_iload_n hx hb dX1_order_57 rfl (lv_at hl 2 rfl) ?_
      refine va_calli (va_runV (As := [.int p0, .int p1]) (rest := [.int ((sgT T) p0.toNatClampNeg)]) ⟨hx, hb, hml, hown, hts⟩ (met_X1_sizes l D cI cJ bd T p0 p1 (h0) (h1)) (cwV 2 hts gX1_order_X1_sizes rfl rfl rfl (by decide +kernel) ⟨Nat.le_of_ble_eq_true rfl, Nat.le_of_ble_eq_true rfl⟩) ⟨fun a U g mk q => ⟨q.1, b1R_calling q.2⟩, va_recv hK hP (ci := 1) (q0 := 0) rfl rfl, fun U hU hW => ⟨rfl, b1R_at hP hK hU hW⟩⟩ rfl rfl hl.1 rfl (lv_room (Nat.le_of_ble_eq_true rfl)) dX1_order_58 ⟨Nat.le_of_ble_eq_true rfl, Nat.le_of_ble_eq_true rfl⟩) hS (fun q _ h => h.elim) (fun q h => h.elim) (fun r58 u58 t H locs ht hvm hw58 hB hz hk hS => ?_)
      subst hw58
      have hP := hP.kept (fun k q hk9 => hk _ (vx_lt hP hk9) (fun h => h))
      refine lv_imul hx hb dX1_order_61 ?_
      rw [hQ]
      exact W.iret (v := (((sgT T) p0.toNatClampNeg) * (f_X1_sizes T p0 p1))) hx hb hr (fun t ht hW => ⟨⟨(((sgT T) p0.toNatClampNeg) * (f_X1_sizes T p0 p1)), (), rfl, (hR.trans (by simp only [f_X1_order, if_pos c12, if_neg c42])), trivial⟩, hS.F ht⟩) hS.2.2 dX1_order_62
    · skip
      refine lv_iconst (v := 0) hx hb dX1_order_45 (by decide) ?_
      refine lv_goto (tgt := 62) hx hb dX1_order_46 (by decide) ?_
      rw [hQ]
      exact W.iret (v := 0) hx hb hr (fun t ht hW => ⟨⟨0, (), rfl, (hR.trans (by simp only [f_X1_order, if_pos c12, if_pos c42])), trivial⟩, hS.F ht⟩) hS.2.2 dX1_order_62
  · skip
    refine lv_aload_n hx hb dX1_order_15 rfl (lv_at hl 0 rfl) ?_
    refine va_get (D := D) (ci := 1) (v := .ref (bd 1)) (C := RX1) (T := TX1) (N := 12) hx hb hts hin hown hK hP 0 rfl rfl 0 (by decide) hf9 (fun _ h9 => h9) rfl dX1_order_16 ?_
    refine lv_iload_n hx hb dX1_order_19 rfl (lv_at hl 1 rfl) ?_
    refine va_iald hx hb hK hP 1 0 rfl rfl h0 dX1_order_20 ?_
    refine lv_aload_n hx hb dX1_order_21 rfl (lv_at hl 0 rfl) ?_
    refine va_get (D := D) (ci := 1) (v := .ref (bd 1)) (C := RX1) (T := TX1) (N := 12) hx hb hts hin hown hK hP 0 rfl rfl 0 (by decide) hf9 (fun _ h9 => h9) rfl dX1_order_22 ?_
    refine lv_iload_n hx hb dX1_order_25 rfl (lv_at hl 2 rfl) ?_
    refine va_iald hx hb hK hP 1 0 rfl rfl h1 dX1_order_26 ?_
    refine lv_icmp_le (tgt := 34) hx hb dX1_order_27 (by decide) (fun c27 => ?_) (fun c27 => ?_)
    · skip
      refine lv_iconst (v := (-1)) hx hb dX1_order_34 (by decide) ?_
      rw [hQ]
      exact W.iret (v := (-1)) hx hb hr (fun t ht hW => ⟨⟨(-1), (), rfl, (hR.trans (by simp only [f_X1_order, if_neg c12, if_pos c27])), trivial⟩, hS.F ht⟩) hS.2.2 dX1_order_35
    · skip
      refine lv_iconst (v := 1) hx hb dX1_order_30 (by decide) ?_
      refine lv_goto (tgt := 35) hx hb dX1_order_31 (by decide) ?_
      rw [hQ]
      exact W.iret (v := 1) hx hb hr (fun t ht hW => ⟨⟨1, (), rfl, (hR.trans (by simp only [f_X1_order, if_neg c12, if_neg c27])), trivial⟩, hS.F ht⟩) hS.2.2 dX1_order_35

def g_X1_lacks_32 (p1 : Int32) (u6 : pT) (w32_0 : Int32) : Int32 × pT := (match f_X1_no u6 w32_0 2 with | (r33, u33) => (if (r33 : Int32) = 0 then (match f_X1_no u33 (f_X1_isNear u33 p1) 3 with | (r46, u46) => (if (r46 : Int32) = 0 then (0, u46) else (1, u46))) else (1, u33)))
def g_X1_lacks_31 (p1 : Int32) (u6 : pT) : Int32 × pT := (g_X1_lacks_32 p1 u6 0)
def f_X1_lacks (T : pT) (p0 : Int32) (p1 : Int32) (p2 : Int32) : Int32 × pT := (match f_X1_no T (f_X1_isSlot p1) 1 with | (r6, u6) => (if (r6 : Int32) = 0 then (if ((f_X1_isFrom p0 2 64) : Int32) = 0 then (g_X1_lacks_31 p1 u6) else (if (p2 : Int32) < 0 then (g_X1_lacks_31 p1 u6) else (g_X1_lacks_32 p1 u6 1))) else (1, u6)))
set_option maxHeartbeats 4000000 in
set_option maxRecDepth 100000 in
theorem met_X1_lacks (l : Launch) (D : va_G) (cI cJ : ClassId) (bd : Nat → Nat) (A : Nat → Prop) (T : pT) (p0 : Int32) (p1 : Int32) (p2 : Int32) : Met l yX1_lacks wsX1_lacks ({ frames := 2, cells := 0, slots := 0, locals := 45 } : Room) (va_Pc [.ref (bd 0), .int p0, .int p1, .int p2] (fun U => b1R D cI cJ bd T U ∧ va_D A (mmW cI cJ bd T))) (va_Qi (fun (r : Int32) (u : pT) => f_X1_lacks T p0 p1 p2 = (r, u) ∧ (r = 0 ∨ r = 1)) (fun (u : pT) t => va_P D pCl (mmW cI cJ bd u) t.heap ∧ va_D A (mmW cI cJ bd u)) A) 0 0 A := by
  refine Met.ofW (cc := cX1_lacks) (maxL := 4) (ret := (some .boolean)) (by decide) rfl ?_
  intro p e s m args below meth c s₁ B hml hv
  obtain ⟨rfl, ⟨hP, hK⟩, hD⟩ := hv
  have hx := B.exec
  have hb := B.bytes
  have hr := B.returns
  have hts := atoms_spec (ws := wsX1_lacks) B.pre
  have hown : s.vm.findClass RX1 = some m.cls := findClass_of_methodNamed B.named
  have hlocks := B.notSynchronized
  have hS : va_S A s.heap s.heap [] := va_S.rf
  have hl := lv_entry ([.ref (bd 0), .int p0, .int p1, .int p2]) (n := 4) (Nat.le_of_ble_eq_true rfl)
  rw [lg_entry_eq]
  generalize (lg_sl ([.ref (bd 0), .int p0, .int p1, .int p2]) ++ List.replicate (4 - (lg_sl ([.ref (bd 0), .int p0, .int p1, .int p2])).length) Slot.unset).toArray = ls at hl ⊢
  have hl : lv_has ls 4 [(0, .ref (bd 0)), (1, .int p0), (2, .int p1), (3, .int p2)] := hl
  obtain ⟨Q, hQ⟩ : ∃ Q : State → Prop, Q = (MQ below (va_Qi (fun (r : Int32) (u : pT) => f_X1_lacks T p0 p1 p2 = (r, u) ∧ (r = 0 ∨ r = 1)) (fun (u : pT) t => va_P D pCl (mmW cI cJ bd u) t.heap ∧ va_D A (mmW cI cJ bd u)) A) ([.ref (bd 0), .int p0, .int p1, .int p2] : List Value).toArray s 0 0 A) := ⟨_, rfl⟩
  rw [← hQ]
  have hR : f_X1_lacks T p0 p1 p2 = f_X1_lacks T p0 p1 p2 := rfl
  refine lv_aload_n hx hb dX1_lacks_0 rfl (lv_at hl 0 rfl) ?_
  refine lv_iload_n hx hb dX1_lacks_1 rfl (lv_at hl 2 rfl) ?_
  refine va_calli (va_runS (As := [.int p1]) (rest := [.ref (bd 0)]) ⟨hx, hb, hml, hown, hts⟩ (met_X1_isSlot l p1) (va_cwS 1 hts gX1_lacks_X1_isSlot rfl rfl rfl (by decide +kernel) ⟨Nat.le_of_ble_eq_true rfl, Nat.le_of_ble_eq_true rfl⟩) ⟨fun a U g mk q => q, fun U hU hW => ⟨rfl, trivial⟩⟩ rfl rfl hl.1 rfl (lv_room (Nat.le_of_ble_eq_true rfl)) dX1_lacks_2 ⟨Nat.le_of_ble_eq_true rfl, Nat.le_of_ble_eq_true rfl⟩) hS (fun q _ h => h.elim) (fun q h => h.elim) (fun r2 u2 t H locs ht hvm hw2 hB hz hk hS => ?_)
  obtain ⟨hw2, bz2⟩ := hw2
  subst hw2
  have hP := hP.kept (fun k q hk9 => hk _ (vx_lt hP hk9) (fun h => h))
  refine lv_iconst (v := 1) hx hb dX1_lacks_5 (by decide) ?_
  refine va_calli (va_runV (As := [.int (f_X1_isSlot p1), .int 1]) (rest := []) ⟨hx, hb, hml, hown, hts⟩ (met_X1_no l D cI cJ bd A T (f_X1_isSlot p1) 1) (cwV 2 hts gX1_lacks_X1_no rfl rfl rfl (by decide +kernel) ⟨Nat.le_of_ble_eq_true rfl, Nat.le_of_ble_eq_true rfl⟩) ⟨fun a U g mk q => ⟨q.1, b1R_calling q.2.1, q.2.2⟩, va_recv hK hP (ci := 1) (q0 := 0) rfl rfl, fun U hU hW => ⟨rfl, b1R_at hP hK hU hW, hD⟩⟩ rfl rfl hl.1 rfl (lv_room (Nat.le_of_ble_eq_true rfl)) dX1_lacks_6 ⟨Nat.le_of_ble_eq_true rfl, Nat.le_of_ble_eq_true rfl⟩) hS (fun q _ h => h) (fun q h => h) (fun r6 u6 t H locs ht hvm hw6 hB hz hk hS => ?_)
  obtain ⟨hw6, bz6⟩ := hw6
  obtain ⟨hP, hD⟩ := hB
  rw [ht] at hP
  refine lv_if_ne (tgt := 52) hx hb dX1_lacks_9 (by decide) (fun c9 => ?_) (fun c9 => ?_)
  · skip
    refine lv_iconst (v := 1) hx hb dX1_lacks_52 (by decide) ?_
    refine lv_goto (tgt := 57) hx hb dX1_lacks_53 (by decide) ?_
    rw [hQ]
    exact W.zret (ty := .boolean) (v := 1) hx hb hr (nbool (Or.inr rfl)) (fun t ht hW => ⟨⟨1, u6, rfl, ⟨(hR.trans (by simp only [f_X1_lacks, hw6, if_neg c9])), (Or.inr rfl)⟩, by rw [ht]; exact hP, hD⟩, hS.F ht⟩) hS.2.2 dX1_lacks_57
  · skip
    have hi9 := isSlot_in (no_ok hw6 c9)
    refine lv_aload_n hx hb dX1_lacks_12 rfl (lv_at hl 0 rfl) ?_
    refine lv_iload_n hx hb dX1_lacks_13 rfl (lv_at hl 1 rfl) ?_
    refine lv_iconst (v := 2) hx hb dX1_lacks_14 (by decide) ?_
    refine lv_bipush (v := 64) hx hb dX1_lacks_15 (by decide) ?_
    refine va_calli (va_runS (As := [.int p0, .int 2, .int 64]) (rest := [.ref (bd 0)]) ⟨hx, hb, hml, hown, hts⟩ (met_X1_isFrom l p0 2 64) (va_cwS 3 hts gX1_lacks_X1_isFrom rfl rfl rfl (by decide +kernel) ⟨Nat.le_of_ble_eq_true rfl, Nat.le_of_ble_eq_true rfl⟩) ⟨fun a U g mk q => q, fun U hU hW => ⟨rfl, trivial⟩⟩ rfl rfl hl.1 rfl (lv_room (Nat.le_of_ble_eq_true rfl)) dX1_lacks_17 ⟨Nat.le_of_ble_eq_true rfl, Nat.le_of_ble_eq_true rfl⟩) hS (fun q _ h => h.elim) (fun q h => h.elim) (fun r17 u17 t H locs ht hvm hw17 hB hz hk hS => ?_)
    obtain ⟨hw17, bz17⟩ := hw17
    subst hw17
    have hP := hP.kept (fun k q hk9 => hk _ (vx_lt hP hk9) (fun h => h))
    have J32 : ∀ (w32_0 : Int32) (ls : Array Slot) (H : Heap) (locs : List Loc), lv_has ls 4 [(0, .ref (bd 0)), (1, .int p0), (2, .int p1), (3, .int p2)] → va_S A s.heap H locs → va_P D pCl (mmW cI cJ bd u6) H → va_D A (mmW cI cJ bd u6) → (w32_0 = 0 ∨ w32_0 = 1) → f_X1_lacks T p0 p1 p2 = g_X1_lacks_32 p1 u6 w32_0 → W p l e (headSpec wsX1_lacks ({ frames := 2, cells := 0, slots := 0, locals := 45 } : Room)).room s m ([.ref (bd 0), .int p0, .int p1, .int p2] : List Value).toArray below meth c H locs 0 0 Q (F0 m 32 ls [.int w32_0, .ref (bd 0)]) := by
      intro w32_0 ls H locs hl hS hP hD hb_w32_0 hR
      refine lv_iconst (v := 2) hx hb dX1_lacks_32 (by decide) ?_
      refine va_calli (va_runV (As := [.int w32_0, .int 2]) (rest := []) ⟨hx, hb, hml, hown, hts⟩ (met_X1_no l D cI cJ bd A u6 w32_0 2) (cwV 2 hts gX1_lacks_X1_no rfl rfl rfl (by decide +kernel) ⟨Nat.le_of_ble_eq_true rfl, Nat.le_of_ble_eq_true rfl⟩) ⟨fun a U g mk q => ⟨q.1, b1R_calling q.2.1, q.2.2⟩, va_recv hK hP (ci := 1) (q0 := 0) rfl rfl, fun U hU hW => ⟨rfl, b1R_at hP hK hU hW, hD⟩⟩ rfl rfl hl.1 rfl (lv_room (Nat.le_of_ble_eq_true rfl)) dX1_lacks_33 ⟨Nat.le_of_ble_eq_true rfl, Nat.le_of_ble_eq_true rfl⟩) hS (fun q _ h => h) (fun q h => h) (fun r33 u33 t H locs ht hvm hw33 hB hz hk hS => ?_)
      obtain ⟨hw33, bz33⟩ := hw33
      obtain ⟨hP, hD⟩ := hB
      rw [ht] at hP
      refine lv_if_ne (tgt := 52) hx hb dX1_lacks_36 (by decide) (fun c36 => ?_) (fun c36 => ?_)
      · skip
        refine lv_iconst (v := 1) hx hb dX1_lacks_52 (by decide) ?_
        refine lv_goto (tgt := 57) hx hb dX1_lacks_53 (by decide) ?_
        rw [hQ]
        exact W.zret (ty := .boolean) (v := 1) hx hb hr (nbool (Or.inr rfl)) (fun t ht hW => ⟨⟨1, u33, rfl, ⟨(hR.trans (by simp only [g_X1_lacks_32, hw33, if_neg c36])), (Or.inr rfl)⟩, by rw [ht]; exact hP, hD⟩, hS.F ht⟩) hS.2.2 dX1_lacks_57
      · skip
        refine lv_aload_n hx hb dX1_lacks_39 rfl (lv_at hl 0 rfl) ?_
        refine lv_aload_n hx hb dX1_lacks_40 rfl (lv_at hl 0 rfl) ?_
        refine lv_iload_n hx hb dX1_lacks_41 rfl (lv_at hl 2 rfl) ?_
        refine va_calli (va_runV (As := [.int p1]) (rest := [.ref (bd 0)]) ⟨hx, hb, hml, hown, hts⟩ (met_X1_isNear l D cI cJ bd u33 p1 (hi9)) (cwV 1 hts gX1_lacks_X1_isNear rfl rfl rfl (by decide +kernel) ⟨Nat.le_of_ble_eq_true rfl, Nat.le_of_ble_eq_true rfl⟩) ⟨fun a U g mk q => ⟨q.1, b1R_calling q.2⟩, va_recv hK hP (ci := 1) (q0 := 0) rfl rfl, fun U hU hW => ⟨rfl, b1R_at hP hK hU hW⟩⟩ rfl rfl hl.1 rfl (lv_room (Nat.le_of_ble_eq_true rfl)) dX1_lacks_42 ⟨Nat.le_of_ble_eq_true rfl, Nat.le_of_ble_eq_true rfl⟩) hS (fun q _ h => h.elim) (fun q h => h.elim) (fun r42 u42 t H locs ht hvm hw42 hB hz hk hS => ?_)
        obtain ⟨hw42, bz42⟩ := hw42
        subst hw42
        have hP := hP.kept (fun k q hk9 => hk _ (vx_lt hP hk9) (fun h => h))
        refine lv_iconst (v := 3) hx hb dX1_lacks_45 (by decide) ?_
        refine va_calli (va_runV (As := [.int (f_X1_isNear u33 p1), .int 3]) (rest := []) ⟨hx, hb, hml, hown, hts⟩ (met_X1_no l D cI cJ bd A u33 (f_X1_isNear u33 p1) 3) (cwV 2 hts gX1_lacks_X1_no rfl rfl rfl (by decide +kernel) ⟨Nat.le_of_ble_eq_true rfl, Nat.le_of_ble_eq_true rfl⟩) ⟨fun a U g mk q => ⟨q.1, b1R_calling q.2.1, q.2.2⟩, va_recv hK hP (ci := 1) (q0 := 0) rfl rfl, fun U hU hW => ⟨rfl, b1R_at hP hK hU hW, hD⟩⟩ rfl rfl hl.1 rfl (lv_room (Nat.le_of_ble_eq_true rfl)) dX1_lacks_46 ⟨Nat.le_of_ble_eq_true rfl, Nat.le_of_ble_eq_true rfl⟩) hS (fun q _ h => h) (fun q h => h) (fun r46 u46 t H locs ht hvm hw46 hB hz hk hS => ?_)
        obtain ⟨hw46, bz46⟩ := hw46
        obtain ⟨hP, hD⟩ := hB
        rw [ht] at hP
        refine lv_if_eq (tgt := 56) hx hb dX1_lacks_49 (by decide) (fun c49 => ?_) (fun c49 => ?_)
        · skip
          refine lv_iconst (v := 0) hx hb dX1_lacks_56 (by decide) ?_
          rw [hQ]
          exact W.zret (ty := .boolean) (v := 0) hx hb hr (nbool (Or.inl rfl)) (fun t ht hW => ⟨⟨0, u46, rfl, ⟨(hR.trans (by simp only [g_X1_lacks_32, hw33, if_pos c36, hw46, if_pos c49])), (Or.inl rfl)⟩, by rw [ht]; exact hP, hD⟩, hS.F ht⟩) hS.2.2 dX1_lacks_57
        · skip
          refine lv_iconst (v := 1) hx hb dX1_lacks_52 (by decide) ?_
          refine lv_goto (tgt := 57) hx hb dX1_lacks_53 (by decide) ?_
          rw [hQ]
          exact W.zret (ty := .boolean) (v := 1) hx hb hr (nbool (Or.inr rfl)) (fun t ht hW => ⟨⟨1, u46, rfl, ⟨(hR.trans (by simp only [g_X1_lacks_32, hw33, if_pos c36, hw46, if_neg c49])), (Or.inr rfl)⟩, by rw [ht]; exact hP, hD⟩, hS.F ht⟩) hS.2.2 dX1_lacks_57
    have J31 : ∀ (ls : Array Slot) (H : Heap) (locs : List Loc), lv_has ls 4 [(0, .ref (bd 0)), (1, .int p0), (2, .int p1), (3, .int p2)] → va_S A s.heap H locs → va_P D pCl (mmW cI cJ bd u6) H → va_D A (mmW cI cJ bd u6) → f_X1_lacks T p0 p1 p2 = g_X1_lacks_31 p1 u6 → W p l e (headSpec wsX1_lacks ({ frames := 2, cells := 0, slots := 0, locals := 45 } : Room)).room s m ([.ref (bd 0), .int p0, .int p1, .int p2] : List Value).toArray below meth c H locs 0 0 Q (F0 m 31 ls [.ref (bd 0)]) := by
      intro ls H locs hl hS hP hD hR
      refine lv_iconst (v := 0) hx hb dX1_lacks_31 (by decide) ?_
      exact J32 0 ls _ _ (lv_sub hl [0, 1, 2, 3] rfl) hS hP hD (Or.inl rfl) (hR.trans (by simp only [g_X1_lacks_31]))
    refine lv_if_eq (tgt := 31) hx hb dX1_lacks_20 (by decide) (fun c20 => ?_) (fun c20 => ?_)
    · skip
      exact J31 ls _ _ (lv_sub hl [0, 1, 2, 3] rfl) hS hP hD (hR.trans (by simp only [f_X1_lacks, hw6, if_pos c9, if_pos c20]))
    · skip
      have hz20 := isFrom2_nz c20
      refine lv_iload_n hx hb dX1_lacks_23 rfl (lv_at hl 3 rfl) ?_
      refine lv_if_lt (tgt := 31) hx hb dX1_lacks_24 (by decide) (fun c24 => ?_) (fun c24 => ?_)
      · skip
        exact J31 ls _ _ (lv_sub hl [0, 1, 2, 3] rfl) hS hP hD (hR.trans (by simp only [f_X1_lacks, hw6, if_pos c9, if_neg c20, if_pos c24]))
      · skip
        refine lv_iconst (v := 1) hx hb dX1_lacks_27 (by decide) ?_
        refine lv_goto (tgt := 32) hx hb dX1_lacks_28 (by decide) ?_
        exact J32 1 ls _ _ (lv_sub hl [0, 1, 2, 3] rfl) hS hP hD (Or.inr rfl) (hR.trans (by simp only [f_X1_lacks, hw6, if_pos c9, if_neg c20, if_neg c24]))

def f_X1_isToldNear (T : pT) (p0 : Int32) (p1 : Int32) : Int32 × pT := (match f_X1_isTold_ T p0 p1 with | (r3, u3) => (if (r3 : Int32) = 0 then (0, u3) else (if ((f_X1_isPowerNear u3) : Int32) = 0 then (0, u3) else (1, u3))))
set_option maxHeartbeats 4000000 in
set_option maxRecDepth 100000 in
theorem met_X1_isToldNear (l : Launch) (D : va_G) (cI cJ : ClassId) (bd : Nat → Nat) (A : Nat → Prop) (T : pT) (p0 : Int32) (p1 : Int32) : Met l yX1_isToldNear wsX1_isToldNear ({ frames := 2, cells := 0, slots := 0, locals := 51 } : Room) (va_Pc [.ref (bd 0), .int p0, .int p1] (fun U => b1R D cI cJ bd T U ∧ va_D A (mmW cI cJ bd T))) (va_Qi (fun (r : Int32) (u : pT) => f_X1_isToldNear T p0 p1 = (r, u) ∧ (r = 0 ∨ r = 1)) (fun (u : pT) t => va_P D pCl (mmW cI cJ bd u) t.heap ∧ va_D A (mmW cI cJ bd u)) A) 0 0 A := by
  refine Met.ofW (cc := cX1_isToldNear) (maxL := 3) (ret := (some .boolean)) (by decide) rfl ?_
  intro p e s m args below meth c s₁ B hml hv
  obtain ⟨rfl, ⟨hP, hK⟩, hD⟩ := hv
  have hx := B.exec
  have hb := B.bytes
  have hr := B.returns
  have hts := atoms_spec (ws := wsX1_isToldNear) B.pre
  have hown : s.vm.findClass RX1 = some m.cls := findClass_of_methodNamed B.named
  have hlocks := B.notSynchronized
  have hS : va_S A s.heap s.heap [] := va_S.rf
  have hl := lv_entry ([.ref (bd 0), .int p0, .int p1]) (n := 3) (Nat.le_of_ble_eq_true rfl)
  rw [lg_entry_eq]
  generalize (lg_sl ([.ref (bd 0), .int p0, .int p1]) ++ List.replicate (3 - (lg_sl ([.ref (bd 0), .int p0, .int p1])).length) Slot.unset).toArray = ls at hl ⊢
  have hl : lv_has ls 3 [(0, .ref (bd 0)), (1, .int p0), (2, .int p1)] := hl
  obtain ⟨Q, hQ⟩ : ∃ Q : State → Prop, Q = (MQ below (va_Qi (fun (r : Int32) (u : pT) => f_X1_isToldNear T p0 p1 = (r, u) ∧ (r = 0 ∨ r = 1)) (fun (u : pT) t => va_P D pCl (mmW cI cJ bd u) t.heap ∧ va_D A (mmW cI cJ bd u)) A) ([.ref (bd 0), .int p0, .int p1] : List Value).toArray s 0 0 A) := ⟨_, rfl⟩
  rw [← hQ]
  have hR : f_X1_isToldNear T p0 p1 = f_X1_isToldNear T p0 p1 := rfl
  refine lv_aload_n hx hb dX1_isToldNear_0 rfl (lv_at hl 0 rfl) ?_
  refine lv_iload_n hx hb dX1_isToldNear_1 rfl (lv_at hl 1 rfl) ?_
  refine lv_iload_n hx hb dX1_isToldNear_2 rfl (lv_at hl 2 rfl) ?_
  refine va_calli (va_runV (As := [.int p0, .int p1]) (rest := []) ⟨hx, hb, hml, hown, hts⟩ (met_X1_isTold_ l D cI cJ bd A T p0 p1) (cwV 2 hts gX1_isToldNear_X1_isTold_ rfl rfl rfl (by decide +kernel) ⟨Nat.le_of_ble_eq_true rfl, Nat.le_of_ble_eq_true rfl⟩) ⟨fun a U g mk q => ⟨q.1, b1R_calling q.2.1, q.2.2⟩, va_recv hK hP (ci := 1) (q0 := 0) rfl rfl, fun U hU hW => ⟨rfl, b1R_at hP hK hU hW, hD⟩⟩ rfl rfl hl.1 rfl (lv_room (Nat.le_of_ble_eq_true rfl)) dX1_isToldNear_3 ⟨Nat.le_of_ble_eq_true rfl, Nat.le_of_ble_eq_true rfl⟩) hS (fun q _ h => h) (fun q h => h) (fun r3 u3 t H locs ht hvm hw3 hB hz hk hS => ?_)
  obtain ⟨hw3, bz3⟩ := hw3
  obtain ⟨hP, hD⟩ := hB
  rw [ht] at hP
  refine lv_if_eq (tgt := 20) hx hb dX1_isToldNear_6 (by decide) (fun c6 => ?_) (fun c6 => ?_)
  · skip
    refine lv_iconst (v := 0) hx hb dX1_isToldNear_20 (by decide) ?_
    rw [hQ]
    exact W.zret (ty := .boolean) (v := 0) hx hb hr (nbool (Or.inl rfl)) (fun t ht hW => ⟨⟨0, u3, rfl, ⟨(hR.trans (by simp only [f_X1_isToldNear, hw3, if_pos c6])), (Or.inl rfl)⟩, by rw [ht]; exact hP, hD⟩, hS.F ht⟩) hS.2.2 dX1_isToldNear_21
  · skip
    refine lv_aload_n hx hb dX1_isToldNear_9 rfl (lv_at hl 0 rfl) ?_
    refine va_calli (va_runV (As := []) (rest := []) ⟨hx, hb, hml, hown, hts⟩ (met_X1_isPowerNear l D cI cJ bd u3) (cwV 0 hts gX1_isToldNear_X1_isPowerNear rfl rfl rfl (by decide +kernel) ⟨Nat.le_of_ble_eq_true rfl, Nat.le_of_ble_eq_true rfl⟩) ⟨fun a U g mk q => ⟨q.1, b1R_calling q.2⟩, va_recv hK hP (ci := 1) (q0 := 0) rfl rfl, fun U hU hW => ⟨rfl, b1R_at hP hK hU hW⟩⟩ rfl rfl hl.1 rfl (lv_room (Nat.le_of_ble_eq_true rfl)) dX1_isToldNear_10 ⟨Nat.le_of_ble_eq_true rfl, Nat.le_of_ble_eq_true rfl⟩) hS (fun q _ h => h.elim) (fun q h => h.elim) (fun r10 u10 t H locs ht hvm hw10 hB hz hk hS => ?_)
    obtain ⟨hw10, bz10⟩ := hw10
    subst hw10
    have hP := hP.kept (fun k q hk9 => hk _ (vx_lt hP hk9) (fun h => h))
    refine lv_if_eq (tgt := 20) hx hb dX1_isToldNear_13 (by decide) (fun c13 => ?_) (fun c13 => ?_)
    · skip
      refine lv_iconst (v := 0) hx hb dX1_isToldNear_20 (by decide) ?_
      rw [hQ]
      exact W.zret (ty := .boolean) (v := 0) hx hb hr (nbool (Or.inl rfl)) (fun t ht hW => ⟨⟨0, u3, rfl, ⟨(hR.trans (by simp only [f_X1_isToldNear, hw3, if_neg c6, if_pos c13])), (Or.inl rfl)⟩, by rw [ht]; exact hP, hD⟩, hS.F ht⟩) hS.2.2 dX1_isToldNear_21
    · skip
      refine lv_iconst (v := 1) hx hb dX1_isToldNear_16 (by decide) ?_
      refine lv_goto (tgt := 21) hx hb dX1_isToldNear_17 (by decide) ?_
      rw [hQ]
      exact W.zret (ty := .boolean) (v := 1) hx hb hr (nbool (Or.inr rfl)) (fun t ht hW => ⟨⟨1, u3, rfl, ⟨(hR.trans (by simp only [f_X1_isToldNear, hw3, if_neg c6, if_neg c13])), (Or.inr rfl)⟩, by rw [ht]; exact hP, hD⟩, hS.F ht⟩) hS.2.2 dX1_isToldNear_21

def g_X1_lacksSquare_42 (u6 : pT) (w42_0 : Int32) : Int32 × pT := (match f_X1_no u6 w42_0 2 with | (r43, u43) => (if (r43 : Int32) = 0 then (0, u43) else (1, u43)))
def g_X1_lacksSquare_41 (u6 : pT) : Int32 × pT := (g_X1_lacksSquare_42 u6 0)
def f_X1_lacksSquare (T : pT) (p0 : Int32) : Int32 × pT := (match f_X1_no T (f_X1_isSlot p0) 1 with | (r6, u6) => (if (r6 : Int32) = 0 then (if (((shT u6) p0.toNatClampNeg) : Int32) < (-400) then (g_X1_lacksSquare_41 u6) else (if (400 : Int32) < ((shT u6) p0.toNatClampNeg) then (g_X1_lacksSquare_41 u6) else (g_X1_lacksSquare_42 u6 1))) else (1, u6)))
set_option maxHeartbeats 4000000 in
set_option maxRecDepth 100000 in
theorem met_X1_lacksSquare (l : Launch) (D : va_G) (cI cJ : ClassId) (bd : Nat → Nat) (A : Nat → Prop) (T : pT) (p0 : Int32) : Met l yX1_lacksSquare wsX1_lacksSquare ({ frames := 1, cells := 0, slots := 0, locals := 22 } : Room) (va_Pc [.ref (bd 0), .int p0] (fun U => b1R D cI cJ bd T U ∧ va_D A (mmW cI cJ bd T))) (va_Qi (fun (r : Int32) (u : pT) => f_X1_lacksSquare T p0 = (r, u) ∧ (r = 0 ∨ r = 1)) (fun (u : pT) t => va_P D pCl (mmW cI cJ bd u) t.heap ∧ va_D A (mmW cI cJ bd u)) A) 0 0 A := by
  refine Met.ofW (cc := cX1_lacksSquare) (maxL := 2) (ret := (some .boolean)) (by decide) rfl ?_
  intro p e s m args below meth c s₁ B hml hv
  obtain ⟨rfl, ⟨hP, hK⟩, hD⟩ := hv
  have hx := B.exec
  have hb := B.bytes
  have hr := B.returns
  have hts := atoms_spec (ws := wsX1_lacksSquare) B.pre
  have hown : s.vm.findClass RX1 = some m.cls := findClass_of_methodNamed B.named
  have hlocks := B.notSynchronized
  have hS : va_S A s.heap s.heap [] := va_S.rf
  have hin : ∀ w ∈ wsX10, w ∈ wsX1_lacksSquare := by decide +kernel
  have hf17 := hts (.fieldLink RX1 17 "PowermillModel" "shift" "[I") (by decide +kernel)
  have hl := lv_entry ([.ref (bd 0), .int p0]) (n := 2) (Nat.le_of_ble_eq_true rfl)
  rw [lg_entry_eq]
  generalize (lg_sl ([.ref (bd 0), .int p0]) ++ List.replicate (2 - (lg_sl ([.ref (bd 0), .int p0])).length) Slot.unset).toArray = ls at hl ⊢
  have hl : lv_has ls 2 [(0, .ref (bd 0)), (1, .int p0)] := hl
  obtain ⟨Q, hQ⟩ : ∃ Q : State → Prop, Q = (MQ below (va_Qi (fun (r : Int32) (u : pT) => f_X1_lacksSquare T p0 = (r, u) ∧ (r = 0 ∨ r = 1)) (fun (u : pT) t => va_P D pCl (mmW cI cJ bd u) t.heap ∧ va_D A (mmW cI cJ bd u)) A) ([.ref (bd 0), .int p0] : List Value).toArray s 0 0 A) := ⟨_, rfl⟩
  rw [← hQ]
  have hR : f_X1_lacksSquare T p0 = f_X1_lacksSquare T p0 := rfl
  refine lv_aload_n hx hb dX1_lacksSquare_0 rfl (lv_at hl 0 rfl) ?_
  refine lv_iload_n hx hb dX1_lacksSquare_1 rfl (lv_at hl 1 rfl) ?_
  refine va_calli (va_runS (As := [.int p0]) (rest := [.ref (bd 0)]) ⟨hx, hb, hml, hown, hts⟩ (met_X1_isSlot l p0) (va_cwS 1 hts gX1_lacksSquare_X1_isSlot rfl rfl rfl (by decide +kernel) ⟨Nat.le_of_ble_eq_true rfl, Nat.le_of_ble_eq_true rfl⟩) ⟨fun a U g mk q => q, fun U hU hW => ⟨rfl, trivial⟩⟩ rfl rfl hl.1 rfl (lv_room (Nat.le_of_ble_eq_true rfl)) dX1_lacksSquare_2 ⟨Nat.le_of_ble_eq_true rfl, Nat.le_of_ble_eq_true rfl⟩) hS (fun q _ h => h.elim) (fun q h => h.elim) (fun r2 u2 t H locs ht hvm hw2 hB hz hk hS => ?_)
  obtain ⟨hw2, bz2⟩ := hw2
  subst hw2
  have hP := hP.kept (fun k q hk9 => hk _ (vx_lt hP hk9) (fun h => h))
  refine lv_iconst (v := 1) hx hb dX1_lacksSquare_5 (by decide) ?_
  refine va_calli (va_runV (As := [.int (f_X1_isSlot p0), .int 1]) (rest := []) ⟨hx, hb, hml, hown, hts⟩ (met_X1_no l D cI cJ bd A T (f_X1_isSlot p0) 1) (cwV 2 hts gX1_lacksSquare_X1_no rfl rfl rfl (by decide +kernel) ⟨Nat.le_of_ble_eq_true rfl, Nat.le_of_ble_eq_true rfl⟩) ⟨fun a U g mk q => ⟨q.1, b1R_calling q.2.1, q.2.2⟩, va_recv hK hP (ci := 1) (q0 := 0) rfl rfl, fun U hU hW => ⟨rfl, b1R_at hP hK hU hW, hD⟩⟩ rfl rfl hl.1 rfl (lv_room (Nat.le_of_ble_eq_true rfl)) dX1_lacksSquare_6 ⟨Nat.le_of_ble_eq_true rfl, Nat.le_of_ble_eq_true rfl⟩) hS (fun q _ h => h) (fun q h => h) (fun r6 u6 t H locs ht hvm hw6 hB hz hk hS => ?_)
  obtain ⟨hw6, bz6⟩ := hw6
  obtain ⟨hP, hD⟩ := hB
  rw [ht] at hP
  refine lv_if_ne (tgt := 49) hx hb dX1_lacksSquare_9 (by decide) (fun c9 => ?_) (fun c9 => ?_)
  · skip
    refine lv_iconst (v := 1) hx hb dX1_lacksSquare_49 (by decide) ?_
    refine lv_goto (tgt := 54) hx hb dX1_lacksSquare_50 (by decide) ?_
    rw [hQ]
    exact W.zret (ty := .boolean) (v := 1) hx hb hr (nbool (Or.inr rfl)) (fun t ht hW => ⟨⟨1, u6, rfl, ⟨(hR.trans (by simp only [f_X1_lacksSquare, hw6, if_neg c9])), (Or.inr rfl)⟩, by rw [ht]; exact hP, hD⟩, hS.F ht⟩) hS.2.2 dX1_lacksSquare_54
  · skip
    have hi9 := isSlot_in (no_ok hw6 c9)
    refine lv_aload_n hx hb dX1_lacksSquare_12 rfl (lv_at hl 0 rfl) ?_
    refine lv_aload_n hx hb dX1_lacksSquare_13 rfl (lv_at hl 0 rfl) ?_
    refine va_get (D := D) (ci := 1) (v := .ref (bd 3)) (C := RX1) (T := TX1) (N := 12) hx hb hts hin hown hK hP 0 rfl rfl 2 (by decide) hf17 (fun _ h9 => h9) rfl dX1_lacksSquare_14 ?_
    refine lv_iload_n hx hb dX1_lacksSquare_17 rfl (lv_at hl 1 rfl) ?_
    refine va_iald hx hb hK hP 3 0 rfl rfl hi9 dX1_lacksSquare_18 ?_
    refine lv_sipush (v := (-400)) hx hb dX1_lacksSquare_19 (by decide) ?_
    have J42 : ∀ (w42_0 : Int32) (ls : Array Slot) (H : Heap) (locs : List Loc), lv_has ls 2 [(0, .ref (bd 0)), (1, .int p0)] → va_S A s.heap H locs → va_P D pCl (mmW cI cJ bd u6) H → va_D A (mmW cI cJ bd u6) → (w42_0 = 0 ∨ w42_0 = 1) → f_X1_lacksSquare T p0 = g_X1_lacksSquare_42 u6 w42_0 → W p l e (headSpec wsX1_lacksSquare ({ frames := 1, cells := 0, slots := 0, locals := 22 } : Room)).room s m ([.ref (bd 0), .int p0] : List Value).toArray below meth c H locs 0 0 Q (F0 m 42 ls [.int w42_0, .ref (bd 0)]) := by
      intro w42_0 ls H locs hl hS hP hD hb_w42_0 hR
      refine lv_iconst (v := 2) hx hb dX1_lacksSquare_42 (by decide) ?_
      refine va_calli (va_runV (As := [.int w42_0, .int 2]) (rest := []) ⟨hx, hb, hml, hown, hts⟩ (met_X1_no l D cI cJ bd A u6 w42_0 2) (cwV 2 hts gX1_lacksSquare_X1_no rfl rfl rfl (by decide +kernel) ⟨Nat.le_of_ble_eq_true rfl, Nat.le_of_ble_eq_true rfl⟩) ⟨fun a U g mk q => ⟨q.1, b1R_calling q.2.1, q.2.2⟩, va_recv hK hP (ci := 1) (q0 := 0) rfl rfl, fun U hU hW => ⟨rfl, b1R_at hP hK hU hW, hD⟩⟩ rfl rfl hl.1 rfl (lv_room (Nat.le_of_ble_eq_true rfl)) dX1_lacksSquare_43 ⟨Nat.le_of_ble_eq_true rfl, Nat.le_of_ble_eq_true rfl⟩) hS (fun q _ h => h) (fun q h => h) (fun r43 u43 t H locs ht hvm hw43 hB hz hk hS => ?_)
      obtain ⟨hw43, bz43⟩ := hw43
      obtain ⟨hP, hD⟩ := hB
      rw [ht] at hP
      refine lv_if_eq (tgt := 53) hx hb dX1_lacksSquare_46 (by decide) (fun c46 => ?_) (fun c46 => ?_)
      · skip
        refine lv_iconst (v := 0) hx hb dX1_lacksSquare_53 (by decide) ?_
        rw [hQ]
        exact W.zret (ty := .boolean) (v := 0) hx hb hr (nbool (Or.inl rfl)) (fun t ht hW => ⟨⟨0, u43, rfl, ⟨(hR.trans (by simp only [g_X1_lacksSquare_42, hw43, if_pos c46])), (Or.inl rfl)⟩, by rw [ht]; exact hP, hD⟩, hS.F ht⟩) hS.2.2 dX1_lacksSquare_54
      · skip
        refine lv_iconst (v := 1) hx hb dX1_lacksSquare_49 (by decide) ?_
        refine lv_goto (tgt := 54) hx hb dX1_lacksSquare_50 (by decide) ?_
        rw [hQ]
        exact W.zret (ty := .boolean) (v := 1) hx hb hr (nbool (Or.inr rfl)) (fun t ht hW => ⟨⟨1, u43, rfl, ⟨(hR.trans (by simp only [g_X1_lacksSquare_42, hw43, if_neg c46])), (Or.inr rfl)⟩, by rw [ht]; exact hP, hD⟩, hS.F ht⟩) hS.2.2 dX1_lacksSquare_54
    have J41 : ∀ (ls : Array Slot) (H : Heap) (locs : List Loc), lv_has ls 2 [(0, .ref (bd 0)), (1, .int p0)] → va_S A s.heap H locs → va_P D pCl (mmW cI cJ bd u6) H → va_D A (mmW cI cJ bd u6) → f_X1_lacksSquare T p0 = g_X1_lacksSquare_41 u6 → W p l e (headSpec wsX1_lacksSquare ({ frames := 1, cells := 0, slots := 0, locals := 22 } : Room)).room s m ([.ref (bd 0), .int p0] : List Value).toArray below meth c H locs 0 0 Q (F0 m 41 ls [.ref (bd 0)]) := by
      intro ls H locs hl hS hP hD hR
      refine lv_iconst (v := 0) hx hb dX1_lacksSquare_41 (by decide) ?_
      exact J42 0 ls _ _ (lv_sub hl [0, 1] rfl) hS hP hD (Or.inl rfl) (hR.trans (by simp only [g_X1_lacksSquare_41]))
    refine lv_icmp_lt (tgt := 41) hx hb dX1_lacksSquare_22 (by decide) (fun c22 => ?_) (fun c22 => ?_)
    · skip
      exact J41 ls _ _ (lv_sub hl [0, 1] rfl) hS hP hD (hR.trans (by simp only [f_X1_lacksSquare, hw6, if_pos c9, if_pos c22]))
    · skip
      refine lv_aload_n hx hb dX1_lacksSquare_25 rfl (lv_at hl 0 rfl) ?_
      refine va_get (D := D) (ci := 1) (v := .ref (bd 3)) (C := RX1) (T := TX1) (N := 12) hx hb hts hin hown hK hP 0 rfl rfl 2 (by decide) hf17 (fun _ h9 => h9) rfl dX1_lacksSquare_26 ?_
      refine lv_iload_n hx hb dX1_lacksSquare_29 rfl (lv_at hl 1 rfl) ?_
      refine va_iald hx hb hK hP 3 0 rfl rfl hi9 dX1_lacksSquare_30 ?_
      refine lv_sipush (v := 400) hx hb dX1_lacksSquare_31 (by decide) ?_
      refine lv_icmp_gt (tgt := 41) hx hb dX1_lacksSquare_34 (by decide) (fun c34 => ?_) (fun c34 => ?_)
      · skip
        exact J41 ls _ _ (lv_sub hl [0, 1] rfl) hS hP hD (hR.trans (by simp only [f_X1_lacksSquare, hw6, if_pos c9, if_neg c22, if_pos c34]))
      · skip
        refine lv_iconst (v := 1) hx hb dX1_lacksSquare_37 (by decide) ?_
        refine lv_goto (tgt := 42) hx hb dX1_lacksSquare_38 (by decide) ?_
        exact J42 1 ls _ _ (lv_sub hl [0, 1] rfl) hS hP hD (Or.inr rfl) (hR.trans (by simp only [f_X1_lacksSquare, hw6, if_pos c9, if_neg c22, if_neg c34]))

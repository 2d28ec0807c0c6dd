theorem le1_nn {v : Int32} (h : (1 : Int32) ≤ v) : (0 : Int32) ≤ v := by
  rw [fa_le] at h ⊢
  rw [i1] at h
  rw [i0]
  omega
theorem in8m {v : Int32} (h : (1 : Int32) ≤ v) (c : ¬ (8 : Int32) ≤ v) : vp_in (v - 1) 8 := by
  rw [fa_le] at h c
  rw [i1] at h
  rw [i8] at c
  have e : (v - 1).toInt = v.toInt - 1 := by rw [fb_subI (by rw [i1]; omega) (by rw [i1]; omega), i1]
  exact vp_in_iff.mpr ⟨by omega, by omega⟩
theorem inc1 {v B : Int32} (h : (1 : Int32) ≤ v) (c : ¬ B ≤ v) : (1 : Int32) ≤ v + 1 := by
  rw [fa_le] at h ⊢
  rw [i1] at h ⊢
  rw [inc_toInt c]
  omega
theorem kp_in {T : pT} (h : kpR T) (c : ¬ kpT T = 8) : vp_in (kpT T) 8 := by
  have h3 : (kpT T).toInt ≠ 8 := fun e => c (by rw [fa_eq, i8]; exact e)
  have h1 := h.1
  have h2 := h.2
  exact vp_in_iff.mpr ⟨h1, by omega⟩
theorem kp_in8 {T : pT} (c : kpT T = 8) : vp_in (kpT T - 1) 8 := by
  rw [c]
  exact vp_in_iff.mpr (by decide)
theorem kp_dec {T u : pT} (e : kpT u = kpT T ∧ ksT u = ksT T) (h : kpR T) (c : ¬ kpT T ≤ 0) : vp_in (kpT u - 1) 8 := by
  rw [e.1]
  rw [fa_le, i0] at c
  have h1 := h.1
  have h2 := h.2
  have e : (kpT T - 1).toInt = (kpT T).toInt - 1 := by rw [fb_subI (by rw [i1]; omega) (by rw [i1]; omega), i1]
  exact vp_in_iff.mpr ⟨by omega, by omega⟩

def g_X1_become_12 (T : pT) (p0 : Int32) (p1 : Int32) (p2 : Int64) (p3 : Int32) : Nat → Int32 → (Nat → Int32) → (Nat → Int32) → (Nat → Int64) → (Nat → Int32) → (Int32 × pT)
  | 0, _, _, _, _, _ => (0, T)
  | n + 1, v12_6, q12_3, q12_4, q12_5, q12_6 => (if (8 : Int32) ≤ v12_6 then (p3, ((upd (sgT T) p0.toNatClampNeg p1), (vp_updL (odT T) p0.toNatClampNeg p2), (upd (shT T) p0.toNatClampNeg p3), (upd q12_3 ((kpT T) - 1).toNatClampNeg p0), (upd q12_4 ((kpT T) - 1).toNatClampNeg ((sgT T) p0.toNatClampNeg)), (vp_updL q12_5 ((kpT T) - 1).toNatClampNeg ((odT T) p0.toNatClampNeg)), (upd q12_6 ((kpT T) - 1).toNatClampNeg ((shT T) p0.toNatClampNeg)), (((kpT T) - 1) + 1), psT T, poT T, phT T, thT T)) else (g_X1_become_12 T p0 p1 p2 p3 n (v12_6 + 1) (upd q12_3 (v12_6 - 1).toNatClampNeg (q12_3 v12_6.toNatClampNeg)) (upd q12_4 (v12_6 - 1).toNatClampNeg (q12_4 v12_6.toNatClampNeg)) (vp_updL q12_5 (v12_6 - 1).toNatClampNeg (q12_5 v12_6.toNatClampNeg)) (upd q12_6 (v12_6 - 1).toNatClampNeg (q12_6 v12_6.toNatClampNeg))))
def f_X1_become (T : pT) (p0 : Int32) (p1 : Int32) (p2 : Int64) (p3 : Int32) : Int32 × pT := (if ((kpT T) : Int32) = 8 then (g_X1_become_12 T p0 p1 p2 p3 (((8 : Int32).toInt - (1 : Int32).toInt).toNat + 1) 1 (ksT T) (kgT T) (koT T) (khT T)) else (p3, ((upd (sgT T) p0.toNatClampNeg p1), (vp_updL (odT T) p0.toNatClampNeg p2), (upd (shT T) p0.toNatClampNeg p3), (upd (ksT T) (kpT T).toNatClampNeg p0), (upd (kgT T) (kpT T).toNatClampNeg ((sgT T) p0.toNatClampNeg)), (vp_updL (koT T) (kpT T).toNatClampNeg ((odT T) p0.toNatClampNeg)), (upd (khT T) (kpT T).toNatClampNeg ((shT T) p0.toNatClampNeg)), ((kpT T) + 1), psT T, poT T, phT T, thT T)))
set_option maxHeartbeats 4000000 in
set_option maxRecDepth 100000 in
theorem met_X1_become (l : Launch) (D : va_G) (cI cJ : ClassId) (bd : Nat → Nat) (A : Nat → Prop) (T : pT) (p0 : Int32) (p1 : Int32) (p2 : Int64) (p3 : Int32) (h0 : vp_in p0 8) (hkp : kpR T) : Met l yX1_become wsX1_become ({ frames := 0, cells := 0, slots := 0, locals := 0 } : Room) (va_Pc [.ref (bd 0), .int p0, .int p1, .long p2, .int p3] (fun U => b1R D cI cJ bd T U ∧ va_D A (mmW cI cJ bd T))) (va_Qi (fun (r : Int32) (u : pT) => f_X1_become T p0 p1 p2 p3 = (r, u)) (fun (u : pT) t => va_P D pCl (mmW cI cJ bd u) t.heap ∧ va_D A (mmW cI cJ bd u)) A) 0 0 A := by
  refine Met.ofW (cc := cX1_become) (maxL := 7) (ret := (some .int)) (by decide) rfl ?_
  intro p e s m args below meth c s₁ B hml hv
  obtain ⟨rfl, ⟨hP, hK⟩, hD⟩ := hv
  have hx := B.exec
  have hb := B.bytes
  have hr := B.returns
  have hts := atoms_spec (ws := wsX1_become) B.pre
  have hown : s.vm.findClass RX1 = some m.cls := findClass_of_methodNamed B.named
  have hlocks := B.notSynchronized
  have hS : va_S A s.heap s.heap [] := va_S.rf
  have hin : ∀ w ∈ wsX10, w ∈ wsX1_become := by decide +kernel
  have hf9 := hts (.fieldLink RX1 9 "PowermillModel" "sign" "[I") (by decide +kernel)
  have hf13 := hts (.fieldLink RX1 13 "PowermillModel" "odd" "[J") (by decide +kernel)
  have hf17 := hts (.fieldLink RX1 17 "PowermillModel" "shift" "[I") (by decide +kernel)
  have hf20 := hts (.fieldLink RX1 20 "PowermillModel" "oldSlot" "[I") (by decide +kernel)
  have hf23 := hts (.fieldLink RX1 23 "PowermillModel" "oldSign" "[I") (by decide +kernel)
  have hf26 := hts (.fieldLink RX1 26 "PowermillModel" "oldOdd" "[J") (by decide +kernel)
  have hf29 := hts (.fieldLink RX1 29 "PowermillModel" "oldShift" "[I") (by decide +kernel)
  have hf32 := hts (.fieldLink RX1 32 "PowermillModel" "kept" "I") (by decide +kernel)
  have hl := lv_entry ([.ref (bd 0), .int p0, .int p1, .long p2, .int p3]) (n := 7) (Nat.le_of_ble_eq_true rfl)
  rw [lg_entry_eq]
  generalize (lg_sl ([.ref (bd 0), .int p0, .int p1, .long p2, .int p3]) ++ List.replicate (7 - (lg_sl ([.ref (bd 0), .int p0, .int p1, .long p2, .int p3])).length) Slot.unset).toArray = ls at hl ⊢
  have hl : lv_has ls 7 [(0, .ref (bd 0)), (1, .int p0), (2, .int p1), (3, .long p2), (5, .int p3)] := hl
  obtain ⟨Q, hQ⟩ : ∃ Q : State → Prop, Q = (MQ below (va_Qi (fun (r : Int32) (u : pT) => f_X1_become T p0 p1 p2 p3 = (r, u)) (fun (u : pT) t => va_P D pCl (mmW cI cJ bd u) t.heap ∧ va_D A (mmW cI cJ bd u)) A) ([.ref (bd 0), .int p0, .int p1, .long p2, .int p3] : List Value).toArray s 0 0 A) := ⟨_, rfl⟩
  rw [← hQ]
  have hR : f_X1_become T p0 p1 p2 p3 = f_X1_become T p0 p1 p2 p3 := rfl
  refine lv_aload_n hx hb dX1_become_0 rfl (lv_at hl 0 rfl) ?_
  refine va_get (D := D) (ci := 1) (v := .int (kpT T)) (C := RX1) (T := TX1) (N := 12) hx hb hts hin hown hK hP 0 rfl rfl 7 (by decide) hf32 (fun _ h9 => h9) rfl dX1_become_1 ?_
  refine lv_bipush (v := 8) hx hb dX1_become_4 (by decide) ?_
  refine lv_icmp_ne (tgt := 99) hx hb dX1_become_6 (by decide) (fun c6 => ?_) (fun c6 => ?_)
  · skip
    refine lv_aload_n hx hb dX1_become_99 rfl (lv_at hl 0 rfl) ?_
    refine va_get (D := D) (ci := 1) (v := .ref (bd 4)) (C := RX1) (T := TX1) (N := 12) hx hb hts hin hown hK hP 0 rfl rfl 3 (by decide) hf20 (fun _ h9 => h9) rfl dX1_become_100 ?_
    refine lv_aload_n hx hb dX1_become_103 rfl (lv_at hl 0 rfl) ?_
    refine va_get (D := D) (ci := 1) (v := .int (kpT T)) (C := RX1) (T := TX1) (N := 12) hx hb hts hin hown hK hP 0 rfl rfl 7 (by decide) hf32 (fun _ h9 => h9) rfl dX1_become_104 ?_
    refine lv_iload_n hx hb dX1_become_107 rfl (lv_at hl 1 rfl) ?_
    refine va_iast hx hb hK hP hD hS 4 0 rfl rfl (kp_in hkp c6) dX1_become_108 (fun H locs hP hD hS => ?_)
    have hP : va_P D pCl ([(bd 0, .inr (1, [.ref (bd 1), .ref (bd 2), .ref (bd 3), .ref (bd 4), .ref (bd 5), .ref (bd 6), .ref (bd 7), .int (kpT T), .int (psT T), .long (poT T), .int (phT T), .int (thT T)])), (bd 1, .inl (cI, 8, .inl (sgT T))), (bd 2, .inl (cJ, 8, .inr (.inl (odT T)))), (bd 3, .inl (cI, 8, .inl (shT T))), (bd 4, .inl (cI, 8, .inl (upd (ksT T) (kpT T).toNatClampNeg p0))), (bd 5, .inl (cI, 8, .inl (kgT T))), (bd 6, .inl (cJ, 8, .inr (.inl (koT T)))), (bd 7, .inl (cI, 8, .inl (khT T)))]) H := hP
    have hD : va_D A ([(bd 0, .inr (1, [.ref (bd 1), .ref (bd 2), .ref (bd 3), .ref (bd 4), .ref (bd 5), .ref (bd 6), .ref (bd 7), .int (kpT T), .int (psT T), .long (poT T), .int (phT T), .int (thT T)])), (bd 1, .inl (cI, 8, .inl (sgT T))), (bd 2, .inl (cJ, 8, .inr (.inl (odT T)))), (bd 3, .inl (cI, 8, .inl (shT T))), (bd 4, .inl (cI, 8, .inl (upd (ksT T) (kpT T).toNatClampNeg p0))), (bd 5, .inl (cI, 8, .inl (kgT T))), (bd 6, .inl (cJ, 8, .inr (.inl (koT T)))), (bd 7, .inl (cI, 8, .inl (khT T)))]) := hD
    refine lv_aload_n hx hb dX1_become_109 rfl (lv_at hl 0 rfl) ?_
    refine va_get (D := D) (ci := 1) (v := .ref (bd 5)) (C := RX1) (T := TX1) (N := 12) hx hb hts hin hown hK hP 0 rfl rfl 4 (by decide) hf23 (fun _ h9 => h9) rfl dX1_become_110 ?_
    refine lv_aload_n hx hb dX1_become_113 rfl (lv_at hl 0 rfl) ?_
    refine va_get (D := D) (ci := 1) (v := .int (kpT T)) (C := RX1) (T := TX1) (N := 12) hx hb hts hin hown hK hP 0 rfl rfl 7 (by decide) hf32 (fun _ h9 => h9) rfl dX1_become_114 ?_
    refine lv_aload_n hx hb dX1_become_117 rfl (lv_at hl 0 rfl) ?_
    refine va_get (D := D) (ci := 1) (v := .ref (bd 1)) (C := RX1) (T := TX1) (N := 12) hx hb hts hin hown hK hP 0 rfl rfl 0 (by decide) hf9 (fun _ h9 => h9) rfl dX1_become_118 ?_
    refine lv_iload_n hx hb dX1_become_121 rfl (lv_at hl 1 rfl) ?_
    refine va_iald hx hb hK hP 1 0 rfl rfl h0 dX1_become_122 ?_
    refine va_iast hx hb hK hP hD hS 5 0 rfl rfl (kp_in hkp c6) dX1_become_123 (fun H locs hP hD hS => ?_)
    have hP : va_P D pCl ([(bd 0, .inr (1, [.ref (bd 1), .ref (bd 2), .ref (bd 3), .ref (bd 4), .ref (bd 5), .ref (bd 6), .ref (bd 7), .int (kpT T), .int (psT T), .long (poT T), .int (phT T), .int (thT T)])), (bd 1, .inl (cI, 8, .inl (sgT T))), (bd 2, .inl (cJ, 8, .inr (.inl (odT T)))), (bd 3, .inl (cI, 8, .inl (shT T))), (bd 4, .inl (cI, 8, .inl (upd (ksT T) (kpT T).toNatClampNeg p0))), (bd 5, .inl (cI, 8, .inl (upd (kgT T) (kpT T).toNatClampNeg ((sgT T) p0.toNatClampNeg)))), (bd 6, .inl (cJ, 8, .inr (.inl (koT T)))), (bd 7, .inl (cI, 8, .inl (khT T)))]) H := hP
    have hD : va_D A ([(bd 0, .inr (1, [.ref (bd 1), .ref (bd 2), .ref (bd 3), .ref (bd 4), .ref (bd 5), .ref (bd 6), .ref (bd 7), .int (kpT T), .int (psT T), .long (poT T), .int (phT T), .int (thT T)])), (bd 1, .inl (cI, 8, .inl (sgT T))), (bd 2, .inl (cJ, 8, .inr (.inl (odT T)))), (bd 3, .inl (cI, 8, .inl (shT T))), (bd 4, .inl (cI, 8, .inl (upd (ksT T) (kpT T).toNatClampNeg p0))), (bd 5, .inl (cI, 8, .inl (upd (kgT T) (kpT T).toNatClampNeg ((sgT T) p0.toNatClampNeg)))), (bd 6, .inl (cJ, 8, .inr (.inl (koT T)))), (bd 7, .inl (cI, 8, .inl (khT T)))]) := hD
    refine lv_aload_n hx hb dX1_become_124 rfl (lv_at hl 0 rfl) ?_
    refine va_get (D := D) (ci := 1) (v := .ref (bd 6)) (C := RX1) (T := TX1) (N := 12) hx hb hts hin hown hK hP 0 rfl rfl 5 (by decide) hf26 (fun _ h9 => h9) rfl dX1_become_125 ?_
    refine lv_aload_n hx hb dX1_become_128 rfl (lv_at hl 0 rfl) ?_
    refine va_get (D := D) (ci := 1) (v := .int (kpT T)) (C := RX1) (T := TX1) (N := 12) hx hb hts hin hown hK hP 0 rfl rfl 7 (by decide) hf32 (fun _ h9 => h9) rfl dX1_become_129 ?_
    refine lv_aload_n hx hb dX1_become_132 rfl (lv_at hl 0 rfl) ?_
    refine va_get (D := D) (ci := 1) (v := .ref (bd 2)) (C := RX1) (T := TX1) (N := 12) hx hb hts hin hown hK hP 0 rfl rfl 1 (by decide) hf13 (fun _ h9 => h9) rfl dX1_become_133 ?_
    refine lv_iload_n hx hb dX1_become_136 rfl (lv_at hl 1 rfl) ?_
    refine va_lald hx hb hK hP 2 1 rfl rfl h0 dX1_become_137 ?_
    refine va_last hx hb hK hP hD hS 6 1 rfl rfl (kp_in hkp c6) dX1_become_138 (fun H locs hP hD hS => ?_)
    have hP : va_P D pCl ([(bd 0, .inr (1, [.ref (bd 1), .ref (bd 2), .ref (bd 3), .ref (bd 4), .ref (bd 5), .ref (bd 6), .ref (bd 7), .int (kpT T), .int (psT T), .long (poT T), .int (phT T), .int (thT T)])), (bd 1, .inl (cI, 8, .inl (sgT T))), (bd 2, .inl (cJ, 8, .inr (.inl (odT T)))), (bd 3, .inl (cI, 8, .inl (shT T))), (bd 4, .inl (cI, 8, .inl (upd (ksT T) (kpT T).toNatClampNeg p0))), (bd 5, .inl (cI, 8, .inl (upd (kgT T) (kpT T).toNatClampNeg ((sgT T) p0.toNatClampNeg)))), (bd 6, .inl (cJ, 8, .inr (.inl (vp_updL (koT T) (kpT T).toNatClampNeg ((odT T) p0.toNatClampNeg))))), (bd 7, .inl (cI, 8, .inl (khT T)))]) H := hP
    have hD : va_D A ([(bd 0, .inr (1, [.ref (bd 1), .ref (bd 2), .ref (bd 3), .ref (bd 4), .ref (bd 5), .ref (bd 6), .ref (bd 7), .int (kpT T), .int (psT T), .long (poT T), .int (phT T), .int (thT T)])), (bd 1, .inl (cI, 8, .inl (sgT T))), (bd 2, .inl (cJ, 8, .inr (.inl (odT T)))), (bd 3, .inl (cI, 8, .inl (shT T))), (bd 4, .inl (cI, 8, .inl (upd (ksT T) (kpT T).toNatClampNeg p0))), (bd 5, .inl (cI, 8, .inl (upd (kgT T) (kpT T).toNatClampNeg ((sgT T) p0.toNatClampNeg)))), (bd 6, .inl (cJ, 8, .inr (.inl (vp_updL (koT T) (kpT T).toNatClampNeg ((odT T) p0.toNatClampNeg))))), (bd 7, .inl (cI, 8, .inl (khT T)))]) := hD
    refine lv_aload_n hx hb dX1_become_139 rfl (lv_at hl 0 rfl) ?_
    refine va_get (D := D) (ci := 1) (v := .ref (bd 7)) (C := RX1) (T := TX1) (N := 12) hx hb hts hin hown hK hP 0 rfl rfl 6 (by decide) hf29 (fun _ h9 => h9) rfl dX1_become_140 ?_
    refine lv_aload_n hx hb dX1_become_143 rfl (lv_at hl 0 rfl) ?_
    refine va_get (D := D) (ci := 1) (v := .int (kpT T)) (C := RX1) (T := TX1) (N := 12) hx hb hts hin hown hK hP 0 rfl rfl 7 (by decide) hf32 (fun _ h9 => h9) rfl dX1_become_144 ?_
    refine lv_aload_n hx hb dX1_become_147 rfl (lv_at hl 0 rfl) ?_
    refine va_get (D := D) (ci := 1) (v := .ref (bd 3)) (C := RX1) (T := TX1) (N := 12) hx hb hts hin hown hK hP 0 rfl rfl 2 (by decide) hf17 (fun _ h9 => h9) rfl dX1_become_148 ?_
    refine lv_iload_n hx hb dX1_become_151 rfl (lv_at hl 1 rfl) ?_
    refine va_iald hx hb hK hP 3 0 rfl rfl h0 dX1_become_152 ?_
    refine va_iast hx hb hK hP hD hS 7 0 rfl rfl (kp_in hkp c6) dX1_become_153 (fun H locs hP hD hS => ?_)
    have hP : va_P D pCl ([(bd 0, .inr (1, [.ref (bd 1), .ref (bd 2), .ref (bd 3), .ref (bd 4), .ref (bd 5), .ref (bd 6), .ref (bd 7), .int (kpT T), .int (psT T), .long (poT T), .int (phT T), .int (thT T)])), (bd 1, .inl (cI, 8, .inl (sgT T))), (bd 2, .inl (cJ, 8, .inr (.inl (odT T)))), (bd 3, .inl (cI, 8, .inl (shT T))), (bd 4, .inl (cI, 8, .inl (upd (ksT T) (kpT T).toNatClampNeg p0))), (bd 5, .inl (cI, 8, .inl (upd (kgT T) (kpT T).toNatClampNeg ((sgT T) p0.toNatClampNeg)))), (bd 6, .inl (cJ, 8, .inr (.inl (vp_updL (koT T) (kpT T).toNatClampNeg ((odT T) p0.toNatClampNeg))))), (bd 7, .inl (cI, 8, .inl (upd (khT T) (kpT T).toNatClampNeg ((shT T) p0.toNatClampNeg))))]) H := hP
    have hD : va_D A ([(bd 0, .inr (1, [.ref (bd 1), .ref (bd 2), .ref (bd 3), .ref (bd 4), .ref (bd 5), .ref (bd 6), .ref (bd 7), .int (kpT T), .int (psT T), .long (poT T), .int (phT T), .int (thT T)])), (bd 1, .inl (cI, 8, .inl (sgT T))), (bd 2, .inl (cJ, 8, .inr (.inl (odT T)))), (bd 3, .inl (cI, 8, .inl (shT T))), (bd 4, .inl (cI, 8, .inl (upd (ksT T) (kpT T).toNatClampNeg p0))), (bd 5, .inl (cI, 8, .inl (upd (kgT T) (kpT T).toNatClampNeg ((sgT T) p0.toNatClampNeg)))), (bd 6, .inl (cJ, 8, .inr (.inl (vp_updL (koT T) (kpT T).toNatClampNeg ((odT T) p0.toNatClampNeg))))), (bd 7, .inl (cI, 8, .inl (upd (khT T) (kpT T).toNatClampNeg ((shT T) p0.toNatClampNeg))))]) := hD
    refine lv_aload_n hx hb dX1_become_154 rfl (lv_at hl 0 rfl) ?_
    refine lv_dup hx hb dX1_become_155 rfl ?_
    refine va_get (D := D) (ci := 1) (v := .int (kpT T)) (C := RX1) (T := TX1) (N := 12) hx hb hts hin hown hK hP 0 rfl rfl 7 (by decide) hf32 (fun _ h9 => h9) rfl dX1_become_156 ?_
    refine lv_iconst (v := 1) hx hb dX1_become_159 (by decide) ?_
    refine lv_iadd hx hb dX1_become_160 ?_
    refine va_put (D := D) (ci := 1) (v := .int ((kpT T) + 1)) (ty := .int) (C := RX1) (T := TX1) (N := 12) hx hb hts hin tyX1 tyX1_ok nmX1 hown hK hP hD hS 0 rfl rfl 7 (by decide) hf32 (fun _ h9 => h9) rfl (by decide +kernel) rfl rfl (Nat.le_of_ble_eq_true rfl) dX1_become_161 (fun H locs hP hD hS => ?_)
    have hP : va_P D pCl ([(bd 0, .inr (1, [.ref (bd 1), .ref (bd 2), .ref (bd 3), .ref (bd 4), .ref (bd 5), .ref (bd 6), .ref (bd 7), .int ((kpT T) + 1), .int (psT T), .long (poT T), .int (phT T), .int (thT T)])), (bd 1, .inl (cI, 8, .inl (sgT T))), (bd 2, .inl (cJ, 8, .inr (.inl (odT T)))), (bd 3, .inl (cI, 8, .inl (shT T))), (bd 4, .inl (cI, 8, .inl (upd (ksT T) (kpT T).toNatClampNeg p0))), (bd 5, .inl (cI, 8, .inl (upd (kgT T) (kpT T).toNatClampNeg ((sgT T) p0.toNatClampNeg)))), (bd 6, .inl (cJ, 8, .inr (.inl (vp_updL (koT T) (kpT T).toNatClampNeg ((odT T) p0.toNatClampNeg))))), (bd 7, .inl (cI, 8, .inl (upd (khT T) (kpT T).toNatClampNeg ((shT T) p0.toNatClampNeg))))]) H := hP
    have hD : va_D A ([(bd 0, .inr (1, [.ref (bd 1), .ref (bd 2), .ref (bd 3), .ref (bd 4), .ref (bd 5), .ref (bd 6), .ref (bd 7), .int ((kpT T) + 1), .int (psT T), .long (poT T), .int (phT T), .int (thT T)])), (bd 1, .inl (cI, 8, .inl (sgT T))), (bd 2, .inl (cJ, 8, .inr (.inl (odT T)))), (bd 3, .inl (cI, 8, .inl (shT T))), (bd 4, .inl (cI, 8, .inl (upd (ksT T) (kpT T).toNatClampNeg p0))), (bd 5, .inl (cI, 8, .inl (upd (kgT T) (kpT T).toNatClampNeg ((sgT T) p0.toNatClampNeg)))), (bd 6, .inl (cJ, 8, .inr (.inl (vp_updL (koT T) (kpT T).toNatClampNeg ((odT T) p0.toNatClampNeg))))), (bd 7, .inl (cI, 8, .inl (upd (khT T) (kpT T).toNatClampNeg ((shT T) p0.toNatClampNeg))))]) := hD
    refine lv_aload_n hx hb dX1_become_164 rfl (lv_at hl 0 rfl) ?_
    refine va_get (D := D) (ci := 1) (v := .ref (bd 1)) (C := RX1) (T := TX1) (N := 12) hx hb hts hin hown hK hP 0 rfl rfl 0 (by decide) hf9 (fun _ h9 => h9) rfl dX1_become_165 ?_
    refine lv_iload_n hx hb dX1_become_168 rfl (lv_at hl 1 rfl) ?_
    refine lv_iload_n hx hb dX1_become_169 rfl (lv_at hl 2 rfl) ?_
    refine va_iast hx hb hK hP hD hS 1 0 rfl rfl h0 dX1_become_170 (fun H locs hP hD hS => ?_)
    have hP : va_P D pCl ([(bd 0, .inr (1, [.ref (bd 1), .ref (bd 2), .ref (bd 3), .ref (bd 4), .ref (bd 5), .ref (bd 6), .ref (bd 7), .int ((kpT T) + 1), .int (psT T), .long (poT T), .int (phT T), .int (thT T)])), (bd 1, .inl (cI, 8, .inl (upd (sgT T) p0.toNatClampNeg p1))), (bd 2, .inl (cJ, 8, .inr (.inl (odT T)))), (bd 3, .inl (cI, 8, .inl (shT T))), (bd 4, .inl (cI, 8, .inl (upd (ksT T) (kpT T).toNatClampNeg p0))), (bd 5, .inl (cI, 8, .inl (upd (kgT T) (kpT T).toNatClampNeg ((sgT T) p0.toNatClampNeg)))), (bd 6, .inl (cJ, 8, .inr (.inl (vp_updL (koT T) (kpT T).toNatClampNeg ((odT T) p0.toNatClampNeg))))), (bd 7, .inl (cI, 8, .inl (upd (khT T) (kpT T).toNatClampNeg ((shT T) p0.toNatClampNeg))))]) H := hP
    have hD : va_D A ([(bd 0, .inr (1, [.ref (bd 1), .ref (bd 2), .ref (bd 3), .ref (bd 4), .ref (bd 5), .ref (bd 6), .ref (bd 7), .int ((kpT T) + 1), .int (psT T), .long (poT T), .int (phT T), .int (thT T)])), (bd 1, .inl (cI, 8, .inl (upd (sgT T) p0.toNatClampNeg p1))), (bd 2, .inl (cJ, 8, .inr (.inl (odT T)))), (bd 3, .inl (cI, 8, .inl (shT T))), (bd 4, .inl (cI, 8, .inl (upd (ksT T) (kpT T).toNatClampNeg p0))), (bd 5, .inl (cI, 8, .inl (upd (kgT T) (kpT T).toNatClampNeg ((sgT T) p0.toNatClampNeg)))), (bd 6, .inl (cJ, 8, .inr (.inl (vp_updL (koT T) (kpT T).toNatClampNeg ((odT T) p0.toNatClampNeg))))), (bd 7, .inl (cI, 8, .inl (upd (khT T) (kpT T).toNatClampNeg ((shT T) p0.toNatClampNeg))))]) := hD
    refine lv_aload_n hx hb dX1_become_171 rfl (lv_at hl 0 rfl) ?_
    refine va_get (D := D) (ci := 1) (v := .ref (bd 2)) (C := RX1) (T := TX1) (N := 12) hx hb hts hin hown hK hP 0 rfl rfl 1 (by decide) hf13 (fun _ h9 => h9) rfl dX1_become_172 ?_
    refine lv_iload_n hx hb dX1_become_175 rfl (lv_at hl 1 rfl) ?_
    refine lv_lload_n hx hb dX1_become_176 rfl (lv_at hl 3 rfl) ?_
    refine va_last hx hb hK hP hD hS 2 1 rfl rfl h0 dX1_become_177 (fun H locs hP hD hS => ?_)
    have hP : va_P D pCl ([(bd 0, .inr (1, [.ref (bd 1), .ref (bd 2), .ref (bd 3), .ref (bd 4), .ref (bd 5), .ref (bd 6), .ref (bd 7), .int ((kpT T) + 1), .int (psT T), .long (poT T), .int (phT T), .int (thT T)])), (bd 1, .inl (cI, 8, .inl (upd (sgT T) p0.toNatClampNeg p1))), (bd 2, .inl (cJ, 8, .inr (.inl (vp_updL (odT T) p0.toNatClampNeg p2)))), (bd 3, .inl (cI, 8, .inl (shT T))), (bd 4, .inl (cI, 8, .inl (upd (ksT T) (kpT T).toNatClampNeg p0))), (bd 5, .inl (cI, 8, .inl (upd (kgT T) (kpT T).toNatClampNeg ((sgT T) p0.toNatClampNeg)))), (bd 6, .inl (cJ, 8, .inr (.inl (vp_updL (koT T) (kpT T).toNatClampNeg ((odT T) p0.toNatClampNeg))))), (bd 7, .inl (cI, 8, .inl (upd (khT T) (kpT T).toNatClampNeg ((shT T) p0.toNatClampNeg))))]) H := hP
    have hD : va_D A ([(bd 0, .inr (1, [.ref (bd 1), .ref (bd 2), .ref (bd 3), .ref (bd 4), .ref (bd 5), .ref (bd 6), .ref (bd 7), .int ((kpT T) + 1), .int (psT T), .long (poT T), .int (phT T), .int (thT T)])), (bd 1, .inl (cI, 8, .inl (upd (sgT T) p0.toNatClampNeg p1))), (bd 2, .inl (cJ, 8, .inr (.inl (vp_updL (odT T) p0.toNatClampNeg p2)))), (bd 3, .inl (cI, 8, .inl (shT T))), (bd 4, .inl (cI, 8, .inl (upd (ksT T) (kpT T).toNatClampNeg p0))), (bd 5, .inl (cI, 8, .inl (upd (kgT T) (kpT T).toNatClampNeg ((sgT T) p0.toNatClampNeg)))), (bd 6, .inl (cJ, 8, .inr (.inl (vp_updL (koT T) (kpT T).toNatClampNeg ((odT T) p0.toNatClampNeg))))), (bd 7, .inl (cI, 8, .inl (upd (khT T) (kpT T).toNatClampNeg ((shT T) p0.toNatClampNeg))))]) := hD
    refine lv_aload_n hx hb dX1_become_178 rfl (lv_at hl 0 rfl) ?_
    refine va_get (D := D) (ci := 1) (v := .ref (bd 3)) (C := RX1) (T := TX1) (N := 12) hx hb hts hin hown hK hP 0 rfl rfl 2 (by decide) hf17 (fun _ h9 => h9) rfl dX1_become_179 ?_
    refine lv_iload_n hx hb dX1_become_182 rfl (lv_at hl 1 rfl) ?_
    refine lv_iload hx hb dX1_become_183 (lv_at hl 4 rfl) ?_
    refine va_iast hx hb hK hP hD hS 3 0 rfl rfl h0 dX1_become_185 (fun H locs hP hD hS => ?_)
    have hP : va_P D pCl ([(bd 0, .inr (1, [.ref (bd 1), .ref (bd 2), .ref (bd 3), .ref (bd 4), .ref (bd 5), .ref (bd 6), .ref (bd 7), .int ((kpT T) + 1), .int (psT T), .long (poT T), .int (phT T), .int (thT T)])), (bd 1, .inl (cI, 8, .inl (upd (sgT T) p0.toNatClampNeg p1))), (bd 2, .inl (cJ, 8, .inr (.inl (vp_updL (odT T) p0.toNatClampNeg p2)))), (bd 3, .inl (cI, 8, .inl (upd (shT T) p0.toNatClampNeg p3))), (bd 4, .inl (cI, 8, .inl (upd (ksT T) (kpT T).toNatClampNeg p0))), (bd 5, .inl (cI, 8, .inl (upd (kgT T) (kpT T).toNatClampNeg ((sgT T) p0.toNatClampNeg)))), (bd 6, .inl (cJ, 8, .inr (.inl (vp_updL (koT T) (kpT T).toNatClampNeg ((odT T) p0.toNatClampNeg))))), (bd 7, .inl (cI, 8, .inl (upd (khT T) (kpT T).toNatClampNeg ((shT T) p0.toNatClampNeg))))]) H := hP
    have hD : va_D A ([(bd 0, .inr (1, [.ref (bd 1), .ref (bd 2), .ref (bd 3), .ref (bd 4), .ref (bd 5), .ref (bd 6), .ref (bd 7), .int ((kpT T) + 1), .int (psT T), .long (poT T), .int (phT T), .int (thT T)])), (bd 1, .inl (cI, 8, .inl (upd (sgT T) p0.toNatClampNeg p1))), (bd 2, .inl (cJ, 8, .inr (.inl (vp_updL (odT T) p0.toNatClampNeg p2)))), (bd 3, .inl (cI, 8, .inl (upd (shT T) p0.toNatClampNeg p3))), (bd 4, .inl (cI, 8, .inl (upd (ksT T) (kpT T).toNatClampNeg p0))), (bd 5, .inl (cI, 8, .inl (upd (kgT T) (kpT T).toNatClampNeg ((sgT T) p0.toNatClampNeg)))), (bd 6, .inl (cJ, 8, .inr (.inl (vp_updL (koT T) (kpT T).toNatClampNeg ((odT T) p0.toNatClampNeg))))), (bd 7, .inl (cI, 8, .inl (upd (khT T) (kpT T).toNatClampNeg ((shT T) p0.toNatClampNeg))))]) := hD
    refine lv_iload hx hb dX1_become_186 (lv_at hl 4 rfl) ?_
    rw [hQ]
    exact W.iret (v := p3) hx hb hr (fun t ht hW => ⟨⟨p3, ((upd (sgT T) p0.toNatClampNeg p1), (vp_updL (odT T) p0.toNatClampNeg p2), (upd (shT T) p0.toNatClampNeg p3), (upd (ksT T) (kpT T).toNatClampNeg p0), (upd (kgT T) (kpT T).toNatClampNeg ((sgT T) p0.toNatClampNeg)), (vp_updL (koT T) (kpT T).toNatClampNeg ((odT T) p0.toNatClampNeg)), (upd (khT T) (kpT T).toNatClampNeg ((shT T) p0.toNatClampNeg)), ((kpT T) + 1), psT T, poT T, phT T, thT T), rfl, (hR.trans (by simp only [f_X1_become, if_neg c6])), by rw [ht]; exact hP, hD⟩, hS.F ht⟩) hS.2.2 dX1_become_188
  · skip
    refine lv_iconst (v := 1) hx hb dX1_become_9 (by decide) ?_
    refine lv_istore (lv' := [(6, .int 1), (0, .ref (bd 0)), (1, .int p0), (2, .int p1), (3, .long p2), (5, .int p3)]) hx hb dX1_become_10 hl (by decide) rfl (fun ls hl => ?_)
    have J12 : ∀ (n12 : Nat) (v12_6 : Int32) (q12_3 : Nat → Int32) (q12_4 : Nat → Int32) (q12_5 : Nat → Int64) (q12_6 : Nat → Int32) (ls : Array Slot) (H : Heap) (locs : List Loc), lv_has ls 7 [(0, .ref (bd 0)), (1, .int p0), (2, .int p1), (3, .long p2), (5, .int p3), (6, .int v12_6)] → va_S A s.heap H locs → va_P D pCl ([(bd 0, .inr (1, [.ref (bd 1), .ref (bd 2), .ref (bd 3), .ref (bd 4), .ref (bd 5), .ref (bd 6), .ref (bd 7), .int (kpT T), .int (psT T), .long (poT T), .int (phT T), .int (thT T)])), (bd 1, .inl (cI, 8, .inl (sgT T))), (bd 2, .inl (cJ, 8, .inr (.inl (odT T)))), (bd 3, .inl (cI, 8, .inl (shT T))), (bd 4, .inl (cI, 8, .inl q12_3)), (bd 5, .inl (cI, 8, .inl q12_4)), (bd 6, .inl (cJ, 8, .inr (.inl q12_5))), (bd 7, .inl (cI, 8, .inl q12_6))]) H → va_D A ([(bd 0, .inr (1, [.ref (bd 1), .ref (bd 2), .ref (bd 3), .ref (bd 4), .ref (bd 5), .ref (bd 6), .ref (bd 7), .int (kpT T), .int (psT T), .long (poT T), .int (phT T), .int (thT T)])), (bd 1, .inl (cI, 8, .inl (sgT T))), (bd 2, .inl (cJ, 8, .inr (.inl (odT T)))), (bd 3, .inl (cI, 8, .inl (shT T))), (bd 4, .inl (cI, 8, .inl q12_3)), (bd 5, .inl (cI, 8, .inl q12_4)), (bd 6, .inl (cJ, 8, .inr (.inl q12_5))), (bd 7, .inl (cI, 8, .inl q12_6))]) → f_X1_become T p0 p1 p2 p3 = g_X1_become_12 T p0 p1 p2 p3 n12 v12_6 q12_3 q12_4 q12_5 q12_6 → ((8 : Int32).toInt - v12_6.toInt).toNat < n12 → ((1 : Int32) ≤ v12_6) → W p l e (headSpec wsX1_become ({ frames := 0, cells := 0, slots := 0, locals := 0 } : Room)).room s m ([.ref (bd 0), .int p0, .int p1, .long p2, .int p3] : List Value).toArray below meth c H locs 0 0 Q (F0 m 12 ls []) := by
      intro n12
      induction n12 with
      | zero => intro v12_6 q12_3 q12_4 q12_5 q12_6 ls H locs hl hS hP hD hR hmu12 hi12_0; exact absurd hmu12 (Nat.not_lt_zero _)
      | succ n12 ih12 =>
        intro v12_6 q12_3 q12_4 q12_5 q12_6 ls H locs hl hS hP hD hR hmu12 hi12_0
        refine lv_iload hx hb dX1_become_12 (lv_at hl 5 rfl) ?_
        refine lv_bipush (v := 8) hx hb dX1_become_14 (by decide) ?_
        refine lv_icmp_ge (tgt := 89) hx hb dX1_become_16 (by decide) (fun c16 => ?_) (fun c16 => ?_)
        · skip
          refine lv_aload_n hx hb dX1_become_89 rfl (lv_at hl 0 rfl) ?_
          refine lv_dup hx hb dX1_become_90 rfl ?_
          refine va_get (D := D) (ci := 1) (v := .int (kpT T)) (C := RX1) (T := TX1) (N := 12) hx hb hts hin hown hK hP 0 rfl rfl 7 (by decide) hf32 (fun _ h9 => h9) rfl dX1_become_91 ?_
          refine lv_iconst (v := 1) hx hb dX1_become_94 (by decide) ?_
          refine lv_isub hx hb dX1_become_95 ?_
          refine va_put (D := D) (ci := 1) (v := .int ((kpT T) - 1)) (ty := .int) (C := RX1) (T := TX1) (N := 12) hx hb hts hin tyX1 tyX1_ok nmX1 hown hK hP hD hS 0 rfl rfl 7 (by decide) hf32 (fun _ h9 => h9) rfl (by decide +kernel) rfl rfl (Nat.le_of_ble_eq_true rfl) dX1_become_96 (fun H locs hP hD hS => ?_)
          have hP : va_P D pCl ([(bd 0, .inr (1, [.ref (bd 1), .ref (bd 2), .ref (bd 3), .ref (bd 4), .ref (bd 5), .ref (bd 6), .ref (bd 7), .int ((kpT T) - 1), .int (psT T), .long (poT T), .int (phT T), .int (thT T)])), (bd 1, .inl (cI, 8, .inl (sgT T))), (bd 2, .inl (cJ, 8, .inr (.inl (odT T)))), (bd 3, .inl (cI, 8, .inl (shT T))), (bd 4, .inl (cI, 8, .inl q12_3)), (bd 5, .inl (cI, 8, .inl q12_4)), (bd 6, .inl (cJ, 8, .inr (.inl q12_5))), (bd 7, .inl (cI, 8, .inl q12_6))]) H := hP
          have hD : va_D A ([(bd 0, .inr (1, [.ref (bd 1), .ref (bd 2), .ref (bd 3), .ref (bd 4), .ref (bd 5), .ref (bd 6), .ref (bd 7), .int ((kpT T) - 1), .int (psT T), .long (poT T), .int (phT T), .int (thT T)])), (bd 1, .inl (cI, 8, .inl (sgT T))), (bd 2, .inl (cJ, 8, .inr (.inl (odT T)))), (bd 3, .inl (cI, 8, .inl (shT T))), (bd 4, .inl (cI, 8, .inl q12_3)), (bd 5, .inl (cI, 8, .inl q12_4)), (bd 6, .inl (cJ, 8, .inr (.inl q12_5))), (bd 7, .inl (cI, 8, .inl q12_6))]) := hD
          refine lv_aload_n hx hb dX1_become_99 rfl (lv_at hl 0 rfl) ?_
          refine va_get (D := D) (ci := 1) (v := .ref (bd 4)) (C := RX1) (T := TX1) (N := 12) hx hb hts hin hown hK hP 0 rfl rfl 3 (by decide) hf20 (fun _ h9 => h9) rfl dX1_become_100 ?_
          refine lv_aload_n hx hb dX1_become_103 rfl (lv_at hl 0 rfl) ?_
          refine va_get (D := D) (ci := 1) (v := .int ((kpT T) - 1)) (C := RX1) (T := TX1) (N := 12) hx hb hts hin hown hK hP 0 rfl rfl 7 (by decide) hf32 (fun _ h9 => h9) rfl dX1_become_104 ?_
          refine lv_iload_n hx hb dX1_become_107 rfl (lv_at hl 1 rfl) ?_
          refine va_iast hx hb hK hP hD hS 4 0 rfl rfl (kp_in8 c6) dX1_become_108 (fun H locs hP hD hS => ?_)
          have hP : va_P D pCl ([(bd 0, .inr (1, [.ref (bd 1), .ref (bd 2), .ref (bd 3), .ref (bd 4), .ref (bd 5), .ref (bd 6), .ref (bd 7), .int ((kpT T) - 1), .int (psT T), .long (poT T), .int (phT T), .int (thT T)])), (bd 1, .inl (cI, 8, .inl (sgT T))), (bd 2, .inl (cJ, 8, .inr (.inl (odT T)))), (bd 3, .inl (cI, 8, .inl (shT T))), (bd 4, .inl (cI, 8, .inl (upd q12_3 ((kpT T) - 1).toNatClampNeg p0))), (bd 5, .inl (cI, 8, .inl q12_4)), (bd 6, .inl (cJ, 8, .inr (.inl q12_5))), (bd 7, .inl (cI, 8, .inl q12_6))]) H := hP
          have hD : va_D A ([(bd 0, .inr (1, [.ref (bd 1), .ref (bd 2), .ref (bd 3), .ref (bd 4), .ref (bd 5), .ref (bd 6), .ref (bd 7), .int ((kpT T) - 1), .int (psT T), .long (poT T), .int (phT T), .int (thT T)])), (bd 1, .inl (cI, 8, .inl (sgT T))), (bd 2, .inl (cJ, 8, .inr (.inl (odT T)))), (bd 3, .inl (cI, 8, .inl (shT T))), (bd 4, .inl (cI, 8, .inl (upd q12_3 ((kpT T) - 1).toNatClampNeg p0))), (bd 5, .inl (cI, 8, .inl q12_4)), (bd 6, .inl (cJ, 8, .inr (.inl q12_5))), (bd 7, .inl (cI, 8, .inl q12_6))]) := hD
          refine lv_aload_n hx hb dX1_become_109 rfl (lv_at hl 0 rfl) ?_
          refine va_get (D := D) (ci := 1) (v := .ref (bd 5)) (C := RX1) (T := TX1) (N := 12) hx hb hts hin hown hK hP 0 rfl rfl 4 (by decide) hf23 (fun _ h9 => h9) rfl dX1_become_110 ?_
          refine lv_aload_n hx hb dX1_become_113 rfl (lv_at hl 0 rfl) ?_
          refine va_get (D := D) (ci := 1) (v := .int ((kpT T) - 1)) (C := RX1) (T := TX1) (N := 12) hx hb hts hin hown hK hP 0 rfl rfl 7 (by decide) hf32 (fun _ h9 => h9) rfl dX1_become_114 ?_
          refine lv_aload_n hx hb dX1_become_117 rfl (lv_at hl 0 rfl) ?_
          refine va_get (D := D) (ci := 1) (v := .ref (bd 1)) (C := RX1) (T := TX1) (N := 12) hx hb hts hin hown hK hP 0 rfl rfl 0 (by decide) hf9 (fun _ h9 => h9) rfl dX1_become_118 ?_
          refine lv_iload_n hx hb dX1_become_121 rfl (lv_at hl 1 rfl) ?_
          refine va_iald hx hb hK hP 1 0 rfl rfl h0 dX1_become_122 ?_
          refine va_iast hx hb hK hP hD hS 5 0 rfl rfl (kp_in8 c6) dX1_become_123 (fun H locs hP hD hS => ?_)
          have hP : va_P D pCl ([(bd 0, .inr (1, [.ref (bd 1), .ref (bd 2), .ref (bd 3), .ref (bd 4), .ref (bd 5), .ref (bd 6), .ref (bd 7), .int ((kpT T) - 1), .int (psT T), .long (poT T), .int (phT T), .int (thT T)])), (bd 1, .inl (cI, 8, .inl (sgT T))), (bd 2, .inl (cJ, 8, .inr (.inl (odT T)))), (bd 3, .inl (cI, 8, .inl (shT T))), (bd 4, .inl (cI, 8, .inl (upd q12_3 ((kpT T) - 1).toNatClampNeg p0))), (bd 5, .inl (cI, 8, .inl (upd q12_4 ((kpT T) - 1).toNatClampNeg ((sgT T) p0.toNatClampNeg)))), (bd 6, .inl (cJ, 8, .inr (.inl q12_5))), (bd 7, .inl (cI, 8, .inl q12_6))]) H := hP
          have hD : va_D A ([(bd 0, .inr (1, [.ref (bd 1), .ref (bd 2), .ref (bd 3), .ref (bd 4), .ref (bd 5), .ref (bd 6), .ref (bd 7), .int ((kpT T) - 1), .int (psT T), .long (poT T), .int (phT T), .int (thT T)])), (bd 1, .inl (cI, 8, .inl (sgT T))), (bd 2, .inl (cJ, 8, .inr (.inl (odT T)))), (bd 3, .inl (cI, 8, .inl (shT T))), (bd 4, .inl (cI, 8, .inl (upd q12_3 ((kpT T) - 1).toNatClampNeg p0))), (bd 5, .inl (cI, 8, .inl (upd q12_4 ((kpT T) - 1).toNatClampNeg ((sgT T) p0.toNatClampNeg)))), (bd 6, .inl (cJ, 8, .inr (.inl q12_5))), (bd 7, .inl (cI, 8, .inl q12_6))]) := hD
          refine lv_aload_n hx hb dX1_become_124 rfl (lv_at hl 0 rfl) ?_
          refine va_get (D := D) (ci := 1) (v := .ref (bd 6)) (C := RX1) (T := TX1) (N := 12) hx hb hts hin hown hK hP 0 rfl rfl 5 (by decide) hf26 (fun _ h9 => h9) rfl dX1_become_125 ?_
          refine lv_aload_n hx hb dX1_become_128 rfl (lv_at hl 0 rfl) ?_
          refine va_get (D := D) (ci := 1) (v := .int ((kpT T) - 1)) (C := RX1) (T := TX1) (N := 12) hx hb hts hin hown hK hP 0 rfl rfl 7 (by decide) hf32 (fun _ h9 => h9) rfl dX1_become_129 ?_
          refine lv_aload_n hx hb dX1_become_132 rfl (lv_at hl 0 rfl) ?_
          refine va_get (D := D) (ci := 1) (v := .ref (bd 2)) (C := RX1) (T := TX1) (N := 12) hx hb hts hin hown hK hP 0 rfl rfl 1 (by decide) hf13 (fun _ h9 => h9) rfl dX1_become_133 ?_
          refine lv_iload_n hx hb dX1_become_136 rfl (lv_at hl 1 rfl) ?_
          refine va_lald hx hb hK hP 2 1 rfl rfl h0 dX1_become_137 ?_
          refine va_last hx hb hK hP hD hS 6 1 rfl rfl (kp_in8 c6) dX1_become_138 (fun H locs hP hD hS => ?_)
          have hP : va_P D pCl ([(bd 0, .inr (1, [.ref (bd 1), .ref (bd 2), .ref (bd 3), .ref (bd 4), .ref (bd 5), .ref (bd 6), .ref (bd 7), .int ((kpT T) - 1), .int (psT T), .long (poT T), .int (phT T), .int (thT T)])), (bd 1, .inl (cI, 8, .inl (sgT T))), (bd 2, .inl (cJ, 8, .inr (.inl (odT T)))), (bd 3, .inl (cI, 8, .inl (shT T))), (bd 4, .inl (cI, 8, .inl (upd q12_3 ((kpT T) - 1).toNatClampNeg p0))), (bd 5, .inl (cI, 8, .inl (upd q12_4 ((kpT T) - 1).toNatClampNeg ((sgT T) p0.toNatClampNeg)))), (bd 6, .inl (cJ, 8, .inr (.inl (vp_updL q12_5 ((kpT T) - 1).toNatClampNeg ((odT T) p0.toNatClampNeg))))), (bd 7, .inl (cI, 8, .inl q12_6))]) H := hP
          have hD : va_D A ([(bd 0, .inr (1, [.ref (bd 1), .ref (bd 2), .ref (bd 3), .ref (bd 4), .ref (bd 5), .ref (bd 6), .ref (bd 7), .int ((kpT T) - 1), .int (psT T), .long (poT T), .int (phT T), .int (thT T)])), (bd 1, .inl (cI, 8, .inl (sgT T))), (bd 2, .inl (cJ, 8, .inr (.inl (odT T)))), (bd 3, .inl (cI, 8, .inl (shT T))), (bd 4, .inl (cI, 8, .inl (upd q12_3 ((kpT T) - 1).toNatClampNeg p0))), (bd 5, .inl (cI, 8, .inl (upd q12_4 ((kpT T) - 1).toNatClampNeg ((sgT T) p0.toNatClampNeg)))), (bd 6, .inl (cJ, 8, .inr (.inl (vp_updL q12_5 ((kpT T) - 1).toNatClampNeg ((odT T) p0.toNatClampNeg))))), (bd 7, .inl (cI, 8, .inl q12_6))]) := hD
          refine lv_aload_n hx hb dX1_become_139 rfl (lv_at hl 0 rfl) ?_
          refine va_get (D := D) (ci := 1) (v := .ref (bd 7)) (C := RX1) (T := TX1) (N := 12) hx hb hts hin hown hK hP 0 rfl rfl 6 (by decide) hf29 (fun _ h9 => h9) rfl dX1_become_140 ?_
          refine lv_aload_n hx hb dX1_become_143 rfl (lv_at hl 0 rfl) ?_
          refine va_get (D := D) (ci := 1) (v := .int ((kpT T) - 1)) (C := RX1) (T := TX1) (N := 12) hx hb hts hin hown hK hP 0 rfl rfl 7 (by decide) hf32 (fun _ h9 => h9) rfl dX1_become_144 ?_
          refine lv_aload_n hx hb dX1_become_147 rfl (lv_at hl 0 rfl) ?_
          refine va_get (D := D) (ci := 1) (v := .ref (bd 3)) (C := RX1) (T := TX1) (N := 12) hx hb hts hin hown hK hP 0 rfl rfl 2 (by decide) hf17 (fun _ h9 => h9) rfl dX1_become_148 ?_
          refine lv_iload_n hx hb dX1_become_151 rfl (lv_at hl 1 rfl) ?_
          refine va_iald hx hb hK hP 3 0 rfl rfl h0 dX1_become_152 ?_
          refine va_iast hx hb hK hP hD hS 7 0 rfl rfl (kp_in8 c6) dX1_become_153 (fun H locs hP hD hS => ?_)
          have hP : va_P D pCl ([(bd 0, .inr (1, [.ref (bd 1), .ref (bd 2), .ref (bd 3), .ref (bd 4), .ref (bd 5), .ref (bd 6), .ref (bd 7), .int ((kpT T) - 1), .int (psT T), .long (poT T), .int (phT T), .int (thT T)])), (bd 1, .inl (cI, 8, .inl (sgT T))), (bd 2, .inl (cJ, 8, .inr (.inl (odT T)))), (bd 3, .inl (cI, 8, .inl (shT T))), (bd 4, .inl (cI, 8, .inl (upd q12_3 ((kpT T) - 1).toNatClampNeg p0))), (bd 5, .inl (cI, 8, .inl (upd q12_4 ((kpT T) - 1).toNatClampNeg ((sgT T) p0.toNatClampNeg)))), (bd 6, .inl (cJ, 8, .inr (.inl (vp_updL q12_5 ((kpT T) - 1).toNatClampNeg ((odT T) p0.toNatClampNeg))))), (bd 7, .inl (cI, 8, .inl (upd q12_6 ((kpT T) - 1).toNatClampNeg ((shT T) p0.toNatClampNeg))))]) H := hP
          have hD : va_D A ([(bd 0, .inr (1, [.ref (bd 1), .ref (bd 2), .ref (bd 3), .ref (bd 4), .ref (bd 5), .ref (bd 6), .ref (bd 7), .int ((kpT T) - 1), .int (psT T), .long (poT T), .int (phT T), .int (thT T)])), (bd 1, .inl (cI, 8, .inl (sgT T))), (bd 2, .inl (cJ, 8, .inr (.inl (odT T)))), (bd 3, .inl (cI, 8, .inl (shT T))), (bd 4, .inl (cI, 8, .inl (upd q12_3 ((kpT T) - 1).toNatClampNeg p0))), (bd 5, .inl (cI, 8, .inl (upd q12_4 ((kpT T) - 1).toNatClampNeg ((sgT T) p0.toNatClampNeg)))), (bd 6, .inl (cJ, 8, .inr (.inl (vp_updL q12_5 ((kpT T) - 1).toNatClampNeg ((odT T) p0.toNatClampNeg))))), (bd 7, .inl (cI, 8, .inl (upd q12_6 ((kpT T) - 1).toNatClampNeg ((shT T) p0.toNatClampNeg))))]) := hD
          refine lv_aload_n hx hb dX1_become_154 rfl (lv_at hl 0 rfl) ?_
          refine lv_dup hx hb dX1_become_155 rfl ?_
          refine va_get (D := D) (ci := 1) (v := .int ((kpT T) - 1)) (C := RX1) (T := TX1) (N := 12) hx hb hts hin hown hK hP 0 rfl rfl 7 (by decide) hf32 (fun _ h9 => h9) rfl dX1_become_156 ?_
          refine lv_iconst (v := 1) hx hb dX1_become_159 (by decide) ?_
          refine lv_iadd hx hb dX1_become_160 ?_
          refine va_put (D := D) (ci := 1) (v := .int (((kpT T) - 1) + 1)) (ty := .int) (C := RX1) (T := TX1) (N := 12) hx hb hts hin tyX1 tyX1_ok nmX1 hown hK hP hD hS 0 rfl rfl 7 (by decide) hf32 (fun _ h9 => h9) rfl (by decide +kernel) rfl rfl (Nat.le_of_ble_eq_true rfl) dX1_become_161 (fun H locs hP hD hS => ?_)
          have hP : va_P D pCl ([(bd 0, .inr (1, [.ref (bd 1), .ref (bd 2), .ref (bd 3), .ref (bd 4), .ref (bd 5), .ref (bd 6), .ref (bd 7), .int (((kpT T) - 1) + 1), .int (psT T), .long (poT T), .int (phT T), .int (thT T)])), (bd 1, .inl (cI, 8, .inl (sgT T))), (bd 2, .inl (cJ, 8, .inr (.inl (odT T)))), (bd 3, .inl (cI, 8, .inl (shT T))), (bd 4, .inl (cI, 8, .inl (upd q12_3 ((kpT T) - 1).toNatClampNeg p0))), (bd 5, .inl (cI, 8, .inl (upd q12_4 ((kpT T) - 1).toNatClampNeg ((sgT T) p0.toNatClampNeg)))), (bd 6, .inl (cJ, 8, .inr (.inl (vp_updL q12_5 ((kpT T) - 1).toNatClampNeg ((odT T) p0.toNatClampNeg))))), (bd 7, .inl (cI, 8, .inl (upd q12_6 ((kpT T) - 1).toNatClampNeg ((shT T) p0.toNatClampNeg))))]) H := hP
          have hD : va_D A ([(bd 0, .inr (1, [.ref (bd 1), .ref (bd 2), .ref (bd 3), .ref (bd 4), .ref (bd 5), .ref (bd 6), .ref (bd 7), .int (((kpT T) - 1) + 1), .int (psT T), .long (poT T), .int (phT T), .int (thT T)])), (bd 1, .inl (cI, 8, .inl (sgT T))), (bd 2, .inl (cJ, 8, .inr (.inl (odT T)))), (bd 3, .inl (cI, 8, .inl (shT T))), (bd 4, .inl (cI, 8, .inl (upd q12_3 ((kpT T) - 1).toNatClampNeg p0))), (bd 5, .inl (cI, 8, .inl (upd q12_4 ((kpT T) - 1).toNatClampNeg ((sgT T) p0.toNatClampNeg)))), (bd 6, .inl (cJ, 8, .inr (.inl (vp_updL q12_5 ((kpT T) - 1).toNatClampNeg ((odT T) p0.toNatClampNeg))))), (bd 7, .inl (cI, 8, .inl (upd q12_6 ((kpT T) - 1).toNatClampNeg ((shT T) p0.toNatClampNeg))))]) := hD
          refine lv_aload_n hx hb dX1_become_164 rfl (lv_at hl 0 rfl) ?_
          refine va_get (D := D) (ci := 1) (v := .ref (bd 1)) (C := RX1) (T := TX1) (N := 12) hx hb hts hin hown hK hP 0 rfl rfl 0 (by decide) hf9 (fun _ h9 => h9) rfl dX1_become_165 ?_
          refine lv_iload_n hx hb dX1_become_168 rfl (lv_at hl 1 rfl) ?_
          refine lv_iload_n hx hb dX1_become_169 rfl (lv_at hl 2 rfl) ?_
          refine va_iast hx hb hK hP hD hS 1 0 rfl rfl h0 dX1_become_170 (fun H locs hP hD hS => ?_)
          have hP : va_P D pCl ([(bd 0, .inr (1, [.ref (bd 1), .ref (bd 2), .ref (bd 3), .ref (bd 4), .ref (bd 5), .ref (bd 6), .ref (bd 7), .int (((kpT T) - 1) + 1), .int (psT T), .long (poT T), .int (phT T), .int (thT T)])), (bd 1, .inl (cI, 8, .inl (upd (sgT T) p0.toNatClampNeg p1))), (bd 2, .inl (cJ, 8, .inr (.inl (odT T)))), (bd 3, .inl (cI, 8, .inl (shT T))), (bd 4, .inl (cI, 8, .inl (upd q12_3 ((kpT T) - 1).toNatClampNeg p0))), (bd 5, .inl (cI, 8, .inl (upd q12_4 ((kpT T) - 1).toNatClampNeg ((sgT T) p0.toNatClampNeg)))), (bd 6, .inl (cJ, 8, .inr (.inl (vp_updL q12_5 ((kpT T) - 1).toNatClampNeg ((odT T) p0.toNatClampNeg))))), (bd 7, .inl (cI, 8, .inl (upd q12_6 ((kpT T) - 1).toNatClampNeg ((shT T) p0.toNatClampNeg))))]) H := hP
          have hD : va_D A ([(bd 0, .inr (1, [.ref (bd 1), .ref (bd 2), .ref (bd 3), .ref (bd 4), .ref (bd 5), .ref (bd 6), .ref (bd 7), .int (((kpT T) - 1) + 1), .int (psT T), .long (poT T), .int (phT T), .int (thT T)])), (bd 1, .inl (cI, 8, .inl (upd (sgT T) p0.toNatClampNeg p1))), (bd 2, .inl (cJ, 8, .inr (.inl (odT T)))), (bd 3, .inl (cI, 8, .inl (shT T))), (bd 4, .inl (cI, 8, .inl (upd q12_3 ((kpT T) - 1).toNatClampNeg p0))), (bd 5, .inl (cI, 8, .inl (upd q12_4 ((kpT T) - 1).toNatClampNeg ((sgT T) p0.toNatClampNeg)))), (bd 6, .inl (cJ, 8, .inr (.inl (vp_updL q12_5 ((kpT T) - 1).toNatClampNeg ((odT T) p0.toNatClampNeg))))), (bd 7, .inl (cI, 8, .inl (upd q12_6 ((kpT T) - 1).toNatClampNeg ((shT T) p0.toNatClampNeg))))]) := hD
          refine lv_aload_n hx hb dX1_become_171 rfl (lv_at hl 0 rfl) ?_
          refine va_get (D := D) (ci := 1) (v := .ref (bd 2)) (C := RX1) (T := TX1) (N := 12) hx hb hts hin hown hK hP 0 rfl rfl 1 (by decide) hf13 (fun _ h9 => h9) rfl dX1_become_172 ?_
          refine lv_iload_n hx hb dX1_become_175 rfl (lv_at hl 1 rfl) ?_
          refine lv_lload_n hx hb dX1_become_176 rfl (lv_at hl 3 rfl) ?_
          refine va_last hx hb hK hP hD hS 2 1 rfl rfl h0 dX1_become_177 (fun H locs hP hD hS => ?_)
          have hP : va_P D pCl ([(bd 0, .inr (1, [.ref (bd 1), .ref (bd 2), .ref (bd 3), .ref (bd 4), .ref (bd 5), .ref (bd 6), .ref (bd 7), .int (((kpT T) - 1) + 1), .int (psT T), .long (poT T), .int (phT T), .int (thT T)])), (bd 1, .inl (cI, 8, .inl (upd (sgT T) p0.toNatClampNeg p1))), (bd 2, .inl (cJ, 8, .inr (.inl (vp_updL (odT T) p0.toNatClampNeg p2)))), (bd 3, .inl (cI, 8, .inl (shT T))), (bd 4, .inl (cI, 8, .inl (upd q12_3 ((kpT T) - 1).toNatClampNeg p0))), (bd 5, .inl (cI, 8, .inl (upd q12_4 ((kpT T) - 1).toNatClampNeg ((sgT T) p0.toNatClampNeg)))), (bd 6, .inl (cJ, 8, .inr (.inl (vp_updL q12_5 ((kpT T) - 1).toNatClampNeg ((odT T) p0.toNatClampNeg))))), (bd 7, .inl (cI, 8, .inl (upd q12_6 ((kpT T) - 1).toNatClampNeg ((shT T) p0.toNatClampNeg))))]) H := hP
          have hD : va_D A ([(bd 0, .inr (1, [.ref (bd 1), .ref (bd 2), .ref (bd 3), .ref (bd 4), .ref (bd 5), .ref (bd 6), .ref (bd 7), .int (((kpT T) - 1) + 1), .int (psT T), .long (poT T), .int (phT T), .int (thT T)])), (bd 1, .inl (cI, 8, .inl (upd (sgT T) p0.toNatClampNeg p1))), (bd 2, .inl (cJ, 8, .inr (.inl (vp_updL (odT T) p0.toNatClampNeg p2)))), (bd 3, .inl (cI, 8, .inl (shT T))), (bd 4, .inl (cI, 8, .inl (upd q12_3 ((kpT T) - 1).toNatClampNeg p0))), (bd 5, .inl (cI, 8, .inl (upd q12_4 ((kpT T) - 1).toNatClampNeg ((sgT T) p0.toNatClampNeg)))), (bd 6, .inl (cJ, 8, .inr (.inl (vp_updL q12_5 ((kpT T) - 1).toNatClampNeg ((odT T) p0.toNatClampNeg))))), (bd 7, .inl (cI, 8, .inl (upd q12_6 ((kpT T) - 1).toNatClampNeg ((shT T) p0.toNatClampNeg))))]) := hD
          refine lv_aload_n hx hb dX1_become_178 rfl (lv_at hl 0 rfl) ?_
          refine va_get (D := D) (ci := 1) (v := .ref (bd 3)) (C := RX1) (T := TX1) (N := 12) hx hb hts hin hown hK hP 0 rfl rfl 2 (by decide) hf17 (fun _ h9 => h9) rfl dX1_become_179 ?_
          refine lv_iload_n hx hb dX1_become_182 rfl (lv_at hl 1 rfl) ?_
          refine lv_iload hx hb dX1_become_183 (lv_at hl 4 rfl) ?_
          refine va_iast hx hb hK hP hD hS 3 0 rfl rfl h0 dX1_become_185 (fun H locs hP hD hS => ?_)
          have hP : va_P D pCl ([(bd 0, .inr (1, [.ref (bd 1), .ref (bd 2), .ref (bd 3), .ref (bd 4), .ref (bd 5), .ref (bd 6), .ref (bd 7), .int (((kpT T) - 1) + 1), .int (psT T), .long (poT T), .int (phT T), .int (thT T)])), (bd 1, .inl (cI, 8, .inl (upd (sgT T) p0.toNatClampNeg p1))), (bd 2, .inl (cJ, 8, .inr (.inl (vp_updL (odT T) p0.toNatClampNeg p2)))), (bd 3, .inl (cI, 8, .inl (upd (shT T) p0.toNatClampNeg p3))), (bd 4, .inl (cI, 8, .inl (upd q12_3 ((kpT T) - 1).toNatClampNeg p0))), (bd 5, .inl (cI, 8, .inl (upd q12_4 ((kpT T) - 1).toNatClampNeg ((sgT T) p0.toNatClampNeg)))), (bd 6, .inl (cJ, 8, .inr (.inl (vp_updL q12_5 ((kpT T) - 1).toNatClampNeg ((odT T) p0.toNatClampNeg))))), (bd 7, .inl (cI, 8, .inl (upd q12_6 ((kpT T) - 1).toNatClampNeg ((shT T) p0.toNatClampNeg))))]) H := hP
          have hD : va_D A ([(bd 0, .inr (1, [.ref (bd 1), .ref (bd 2), .ref (bd 3), .ref (bd 4), .ref (bd 5), .ref (bd 6), .ref (bd 7), .int (((kpT T) - 1) + 1), .int (psT T), .long (poT T), .int (phT T), .int (thT T)])), (bd 1, .inl (cI, 8, .inl (upd (sgT T) p0.toNatClampNeg p1))), (bd 2, .inl (cJ, 8, .inr (.inl (vp_updL (odT T) p0.toNatClampNeg p2)))), (bd 3, .inl (cI, 8, .inl (upd (shT T) p0.toNatClampNeg p3))), (bd 4, .inl (cI, 8, .inl (upd q12_3 ((kpT T) - 1).toNatClampNeg p0))), (bd 5, .inl (cI, 8, .inl (upd q12_4 ((kpT T) - 1).toNatClampNeg ((sgT T) p0.toNatClampNeg)))), (bd 6, .inl (cJ, 8, .inr (.inl (vp_updL q12_5 ((kpT T) - 1).toNatClampNeg ((odT T) p0.toNatClampNeg))))), (bd 7, .inl (cI, 8, .inl (upd q12_6 ((kpT T) - 1).toNatClampNeg ((shT T) p0.toNatClampNeg))))]) := hD
          refine lv_iload hx hb dX1_become_186 (lv_at hl 4 rfl) ?_
          rw [hQ]
          exact W.iret (v := p3) hx hb hr (fun t ht hW => ⟨⟨p3, ((upd (sgT T) p0.toNatClampNeg p1), (vp_updL (odT T) p0.toNatClampNeg p2), (upd (shT T) p0.toNatClampNeg p3), (upd q12_3 ((kpT T) - 1).toNatClampNeg p0), (upd q12_4 ((kpT T) - 1).toNatClampNeg ((sgT T) p0.toNatClampNeg)), (vp_updL q12_5 ((kpT T) - 1).toNatClampNeg ((odT T) p0.toNatClampNeg)), (upd q12_6 ((kpT T) - 1).toNatClampNeg ((shT T) p0.toNatClampNeg)), (((kpT T) - 1) + 1), psT T, poT T, phT T, thT T), rfl, (hR.trans (by simp only [g_X1_become_12, if_pos c16])), by rw [ht]; exact hP, hD⟩, hS.F ht⟩) hS.2.2 dX1_become_188
        · skip
          refine lv_aload_n hx hb dX1_become_19 rfl (lv_at hl 0 rfl) ?_
          refine va_get (D := D) (ci := 1) (v := .ref (bd 4)) (C := RX1) (T := TX1) (N := 12) hx hb hts hin hown hK hP 0 rfl rfl 3 (by decide) hf20 (fun _ h9 => h9) rfl dX1_become_20 ?_
          refine lv_iload hx hb dX1_become_23 (lv_at hl 5 rfl) ?_
          refine lv_iconst (v := 1) hx hb dX1_become_25 (by decide) ?_
          refine lv_isub hx hb dX1_become_26 ?_
          refine lv_aload_n hx hb dX1_become_27 rfl (lv_at hl 0 rfl) ?_
          refine va_get (D := D) (ci := 1) (v := .ref (bd 4)) (C := RX1) (T := TX1) (N := 12) hx hb hts hin hown hK hP 0 rfl rfl 3 (by decide) hf20 (fun _ h9 => h9) rfl dX1_become_28 ?_
          refine lv_iload hx hb dX1_become_31 (lv_at hl 5 rfl) ?_
          refine va_iald hx hb hK hP 4 0 rfl rfl (in8 (le1_nn hi12_0) c16) dX1_become_33 ?_
          refine va_iast hx hb hK hP hD hS 4 0 rfl rfl (in8m hi12_0 c16) dX1_become_34 (fun H locs hP hD hS => ?_)
          have hP : va_P D pCl ([(bd 0, .inr (1, [.ref (bd 1), .ref (bd 2), .ref (bd 3), .ref (bd 4), .ref (bd 5), .ref (bd 6), .ref (bd 7), .int (kpT T), .int (psT T), .long (poT T), .int (phT T), .int (thT T)])), (bd 1, .inl (cI, 8, .inl (sgT T))), (bd 2, .inl (cJ, 8, .inr (.inl (odT T)))), (bd 3, .inl (cI, 8, .inl (shT T))), (bd 4, .inl (cI, 8, .inl (upd q12_3 (v12_6 - 1).toNatClampNeg (q12_3 v12_6.toNatClampNeg)))), (bd 5, .inl (cI, 8, .inl q12_4)), (bd 6, .inl (cJ, 8, .inr (.inl q12_5))), (bd 7, .inl (cI, 8, .inl q12_6))]) H := hP
          have hD : va_D A ([(bd 0, .inr (1, [.ref (bd 1), .ref (bd 2), .ref (bd 3), .ref (bd 4), .ref (bd 5), .ref (bd 6), .ref (bd 7), .int (kpT T), .int (psT T), .long (poT T), .int (phT T), .int (thT T)])), (bd 1, .inl (cI, 8, .inl (sgT T))), (bd 2, .inl (cJ, 8, .inr (.inl (odT T)))), (bd 3, .inl (cI, 8, .inl (shT T))), (bd 4, .inl (cI, 8, .inl (upd q12_3 (v12_6 - 1).toNatClampNeg (q12_3 v12_6.toNatClampNeg)))), (bd 5, .inl (cI, 8, .inl q12_4)), (bd 6, .inl (cJ, 8, .inr (.inl q12_5))), (bd 7, .inl (cI, 8, .inl q12_6))]) := hD
          refine lv_aload_n hx hb dX1_become_35 rfl (lv_at hl 0 rfl) ?_
          refine va_get (D := D) (ci := 1) (v := .ref (bd 5)) (C := RX1) (T := TX1) (N := 12) hx hb hts hin hown hK hP 0 rfl rfl 4 (by decide) hf23 (fun _ h9 => h9) rfl dX1_become_36 ?_
          refine lv_iload hx hb dX1_become_39 (lv_at hl 5 rfl) ?_
          refine lv_iconst (v := 1) hx hb dX1_become_41 (by decide) ?_
          refine lv_isub hx hb dX1_become_42 ?_
          refine lv_aload_n hx hb dX1_become_43 rfl (lv_at hl 0 rfl) ?_
          refine va_get (D := D) (ci := 1) (v := .ref (bd 5)) (C := RX1) (T := TX1) (N := 12) hx hb hts hin hown hK hP 0 rfl rfl 4 (by decide) hf23 (fun _ h9 => h9) rfl dX1_become_44 ?_
          refine lv_iload hx hb dX1_become_47 (lv_at hl 5 rfl) ?_
          refine va_iald hx hb hK hP 5 0 rfl rfl (in8 (le1_nn hi12_0) c16) dX1_become_49 ?_
          refine va_iast hx hb hK hP hD hS 5 0 rfl rfl (in8m hi12_0 c16) dX1_become_50 (fun H locs hP hD hS => ?_)
          have hP : va_P D pCl ([(bd 0, .inr (1, [.ref (bd 1), .ref (bd 2), .ref (bd 3), .ref (bd 4), .ref (bd 5), .ref (bd 6), .ref (bd 7), .int (kpT T), .int (psT T), .long (poT T), .int (phT T), .int (thT T)])), (bd 1, .inl (cI, 8, .inl (sgT T))), (bd 2, .inl (cJ, 8, .inr (.inl (odT T)))), (bd 3, .inl (cI, 8, .inl (shT T))), (bd 4, .inl (cI, 8, .inl (upd q12_3 (v12_6 - 1).toNatClampNeg (q12_3 v12_6.toNatClampNeg)))), (bd 5, .inl (cI, 8, .inl (upd q12_4 (v12_6 - 1).toNatClampNeg (q12_4 v12_6.toNatClampNeg)))), (bd 6, .inl (cJ, 8, .inr (.inl q12_5))), (bd 7, .inl (cI, 8, .inl q12_6))]) H := hP
          have hD : va_D A ([(bd 0, .inr (1, [.ref (bd 1), .ref (bd 2), .ref (bd 3), .ref (bd 4), .ref (bd 5), .ref (bd 6), .ref (bd 7), .int (kpT T), .int (psT T), .long (poT T), .int (phT T), .int (thT T)])), (bd 1, .inl (cI, 8, .inl (sgT T))), (bd 2, .inl (cJ, 8, .inr (.inl (odT T)))), (bd 3, .inl (cI, 8, .inl (shT T))), (bd 4, .inl (cI, 8, .inl (upd q12_3 (v12_6 - 1).toNatClampNeg (q12_3 v12_6.toNatClampNeg)))), (bd 5, .inl (cI, 8, .inl (upd q12_4 (v12_6 - 1).toNatClampNeg (q12_4 v12_6.toNatClampNeg)))), (bd 6, .inl (cJ, 8, .inr (.inl q12_5))), (bd 7, .inl (cI, 8, .inl q12_6))]) := hD
          refine lv_aload_n hx hb dX1_become_51 rfl (lv_at hl 0 rfl) ?_
          refine va_get (D := D) (ci := 1) (v := .ref (bd 6)) (C := RX1) (T := TX1) (N := 12) hx hb hts hin hown hK hP 0 rfl rfl 5 (by decide) hf26 (fun _ h9 => h9) rfl dX1_become_52 ?_
          refine lv_iload hx hb dX1_become_55 (lv_at hl 5 rfl) ?_
          refine lv_iconst (v := 1) hx hb dX1_become_57 (by decide) ?_
          refine lv_isub hx hb dX1_become_58 ?_
          refine lv_aload_n hx hb dX1_become_59 rfl (lv_at hl 0 rfl) ?_
          refine va_get (D := D) (ci := 1) (v := .ref (bd 6)) (C := RX1) (T := TX1) (N := 12) hx hb hts hin hown hK hP 0 rfl rfl 5 (by decide) hf26 (fun _ h9 => h9) rfl dX1_become_60 ?_
          refine lv_iload hx hb dX1_become_63 (lv_at hl 5 rfl) ?_
          refine va_lald hx hb hK hP 6 1 rfl rfl (in8 (le1_nn hi12_0) c16) dX1_become_65 ?_
          refine va_last hx hb hK hP hD hS 6 1 rfl rfl (in8m hi12_0 c16) dX1_become_66 (fun H locs hP hD hS => ?_)
          have hP : va_P D pCl ([(bd 0, .inr (1, [.ref (bd 1), .ref (bd 2), .ref (bd 3), .ref (bd 4), .ref (bd 5), .ref (bd 6), .ref (bd 7), .int (kpT T), .int (psT T), .long (poT T), .int (phT T), .int (thT T)])), (bd 1, .inl (cI, 8, .inl (sgT T))), (bd 2, .inl (cJ, 8, .inr (.inl (odT T)))), (bd 3, .inl (cI, 8, .inl (shT T))), (bd 4, .inl (cI, 8, .inl (upd q12_3 (v12_6 - 1).toNatClampNeg (q12_3 v12_6.toNatClampNeg)))), (bd 5, .inl (cI, 8, .inl (upd q12_4 (v12_6 - 1).toNatClampNeg (q12_4 v12_6.toNatClampNeg)))), (bd 6, .inl (cJ, 8, .inr (.inl (vp_updL q12_5 (v12_6 - 1).toNatClampNeg (q12_5 v12_6.toNatClampNeg))))), (bd 7, .inl (cI, 8, .inl q12_6))]) H := hP
          have hD : va_D A ([(bd 0, .inr (1, [.ref (bd 1), .ref (bd 2), .ref (bd 3), .ref (bd 4), .ref (bd 5), .ref (bd 6), .ref (bd 7), .int (kpT T), .int (psT T), .long (poT T), .int (phT T), .int (thT T)])), (bd 1, .inl (cI, 8, .inl (sgT T))), (bd 2, .inl (cJ, 8, .inr (.inl (odT T)))), (bd 3, .inl (cI, 8, .inl (shT T))), (bd 4, .inl (cI, 8, .inl (upd q12_3 (v12_6 - 1).toNatClampNeg (q12_3 v12_6.toNatClampNeg)))), (bd 5, .inl (cI, 8, .inl (upd q12_4 (v12_6 - 1).toNatClampNeg (q12_4 v12_6.toNatClampNeg)))), (bd 6, .inl (cJ, 8, .inr (.inl (vp_updL q12_5 (v12_6 - 1).toNatClampNeg (q12_5 v12_6.toNatClampNeg))))), (bd 7, .inl (cI, 8, .inl q12_6))]) := hD
          refine lv_aload_n hx hb dX1_become_67 rfl (lv_at hl 0 rfl) ?_
          refine va_get (D := D) (ci := 1) (v := .ref (bd 7)) (C := RX1) (T := TX1) (N := 12) hx hb hts hin hown hK hP 0 rfl rfl 6 (by decide) hf29 (fun _ h9 => h9) rfl dX1_become_68 ?_
          refine lv_iload hx hb dX1_become_71 (lv_at hl 5 rfl) ?_
          refine lv_iconst (v := 1) hx hb dX1_become_73 (by decide) ?_
          refine lv_isub hx hb dX1_become_74 ?_
          refine lv_aload_n hx hb dX1_become_75 rfl (lv_at hl 0 rfl) ?_
          refine va_get (D := D) (ci := 1) (v := .ref (bd 7)) (C := RX1) (T := TX1) (N := 12) hx hb hts hin hown hK hP 0 rfl rfl 6 (by decide) hf29 (fun _ h9 => h9) rfl dX1_become_76 ?_
          refine lv_iload hx hb dX1_become_79 (lv_at hl 5 rfl) ?_
          refine va_iald hx hb hK hP 7 0 rfl rfl (in8 (le1_nn hi12_0) c16) dX1_become_81 ?_
          refine va_iast hx hb hK hP hD hS 7 0 rfl rfl (in8m hi12_0 c16) dX1_become_82 (fun H locs hP hD hS => ?_)
          have hP : va_P D pCl ([(bd 0, .inr (1, [.ref (bd 1), .ref (bd 2), .ref (bd 3), .ref (bd 4), .ref (bd 5), .ref (bd 6), .ref (bd 7), .int (kpT T), .int (psT T), .long (poT T), .int (phT T), .int (thT T)])), (bd 1, .inl (cI, 8, .inl (sgT T))), (bd 2, .inl (cJ, 8, .inr (.inl (odT T)))), (bd 3, .inl (cI, 8, .inl (shT T))), (bd 4, .inl (cI, 8, .inl (upd q12_3 (v12_6 - 1).toNatClampNeg (q12_3 v12_6.toNatClampNeg)))), (bd 5, .inl (cI, 8, .inl (upd q12_4 (v12_6 - 1).toNatClampNeg (q12_4 v12_6.toNatClampNeg)))), (bd 6, .inl (cJ, 8, .inr (.inl (vp_updL q12_5 (v12_6 - 1).toNatClampNeg (q12_5 v12_6.toNatClampNeg))))), (bd 7, .inl (cI, 8, .inl (upd q12_6 (v12_6 - 1).toNatClampNeg (q12_6 v12_6.toNatClampNeg))))]) H := hP
          have hD : va_D A ([(bd 0, .inr (1, [.ref (bd 1), .ref (bd 2), .ref (bd 3), .ref (bd 4), .ref (bd 5), .ref (bd 6), .ref (bd 7), .int (kpT T), .int (psT T), .long (poT T), .int (phT T), .int (thT T)])), (bd 1, .inl (cI, 8, .inl (sgT T))), (bd 2, .inl (cJ, 8, .inr (.inl (odT T)))), (bd 3, .inl (cI, 8, .inl (shT T))), (bd 4, .inl (cI, 8, .inl (upd q12_3 (v12_6 - 1).toNatClampNeg (q12_3 v12_6.toNatClampNeg)))), (bd 5, .inl (cI, 8, .inl (upd q12_4 (v12_6 - 1).toNatClampNeg (q12_4 v12_6.toNatClampNeg)))), (bd 6, .inl (cJ, 8, .inr (.inl (vp_updL q12_5 (v12_6 - 1).toNatClampNeg (q12_5 v12_6.toNatClampNeg))))), (bd 7, .inl (cI, 8, .inl (upd q12_6 (v12_6 - 1).toNatClampNeg (q12_6 v12_6.toNatClampNeg))))]) := hD
          refine lv_iinc (v := (v12_6 + 1)) (lv' := [(6, .int (v12_6 + 1)), (0, .ref (bd 0)), (1, .int p0), (2, .int p1), (3, .long p2), (5, .int p3)]) hx hb dX1_become_83 hl (k := 5) rfl (by rfl) (by decide) rfl (fun ls hl => ?_)
          refine lv_goto (tgt := 12) hx hb dX1_become_86 (by decide) ?_
          exact ih12 (v12_6 + 1) (upd q12_3 (v12_6 - 1).toNatClampNeg (q12_3 v12_6.toNatClampNeg)) (upd q12_4 (v12_6 - 1).toNatClampNeg (q12_4 v12_6.toNatClampNeg)) (vp_updL q12_5 (v12_6 - 1).toNatClampNeg (q12_5 v12_6.toNatClampNeg)) (upd q12_6 (v12_6 - 1).toNatClampNeg (q12_6 v12_6.toNatClampNeg)) ls _ _ (lv_sub hl [1, 2, 3, 4, 5, 0] rfl) hS hP hD (hR.trans (by simp only [g_X1_become_12, if_neg c16])) (mu_up c16 hmu12) (inc1 hi12_0 c16)
    exact J12 (((8 : Int32).toInt - (1 : Int32).toInt).toNat + 1) 1 (ksT T) (kgT T) (koT T) (khT T) ls _ _ (lv_sub hl [1, 2, 3, 4, 5, 0] rfl) hS hP hD (hR.trans (by simp only [f_X1_become, if_pos c6])) (Nat.lt_succ_self _) (by decide)

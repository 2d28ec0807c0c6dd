theorem and63 (x : Int32) : 0 ≤ (x &&& 63).toInt ∧ (x &&& 63).toInt < 64 := by
  have h0 : (x &&& 63).toBitVec.toNat ≤ 63 := by
    show (x.toBitVec &&& 63#32).toNat ≤ 63
    rw [BitVec.toNat_and]
    exact Nat.and_le_right
  have h1 : (x &&& 63).toInt = ((x &&& 63).toBitVec.toNat : Int) := BitVec.toInt_eq_toNat_of_lt (by omega)
  omega
theorem Lm4 {L : Nat} (hL : L ≤ 2048) : (Int32.ofNat L - 4).toInt = (L : Int) - 4 := by
  have h0 : (Int32.ofNat L).toInt = (L : Int) := nI_toInt (n := L) (by omega)
  rw [Int32.toInt_sub, h0, show (4 : Int32).toInt = 4 from rfl]
  exact Int.bmod_eq_of_le (by omega) (by omega)
set_option maxHeartbeats 4000000 in
set_option maxRecDepth 100000 in
theorem lw_loop {p : Program} {l : Launch} {e : Env} {s : State} {m : MethodId} {below : List Frame} {meth : Method} {c : Code} {b L : Nat} {xs : Nat → Int32} (hfl : l.stackTraces = false) (hL : L ≤ 2048) (C0 : lw_At p s m meth c b L xs) {D : va_G} {cI cJ : ClassId} {ad : Nat → Nat} {ao : Nat} {bd : Nat → Nat} (hK : va_K D pCl (pTy cI cJ) s) (hE : xE (fun q : Nat => s.heap.size ≤ q) s s.heap) (hNc : xN s) : ∀ (f q : Nat), L ≤ 4 * q + f → 4 * q ≤ L → ∀ (x4 : Int32), x4 = nI (4 * q) → ∀ (H : Heap) (locs : List Loc) (S : pS) (T : pT) (o : Nat → Int64), lwI D cI cJ s ad ao bd S o T H → rel S T → va_S (fun q : Nat => s.heap.size ≤ q) s.heap H locs → ∀ ls : Array Slot, lv_has ls 8 [(4, .int x4), (3, .ref ao), (2, .ref (bd 0)), (1, .ref (ad 0)), (0, .ref b)] → W p l e room_1 s m #[Value.ref b] below meth c H locs (17 + 6 * q) (134 + 36 * q) (lw_Z below #[Value.ref b] s) (F0 m 23 ls []) := by
  intro f
  induction f using Nat.strongRecOn with
  | _ f ih =>
    intro q hf hq x4 hx4 H locs S T o hI hR hS ls hl
    obtain ⟨hx, hb, hr, hml, hown, hts, hX, hbl, hlocks, hgv⟩ := id C0
    have hb : c.code = cL_law := hb
    have hbA : ¬ (fun q : Nat => s.heap.size ≤ q) b := Nat.not_le.mpr hbl
    refine lv_iload hx hb dL_law_23 (lv_at hl 0 rfl) ?_
    refine lv_aload_n hx hb dL_law_25 rfl (lv_at hl 4 rfl) ?_
    refine va_slen hx hb hX hbl hbA hS dL_law_26 ?_
    refine lv_iconst (v := 4) hx hb dL_law_27 (by decide) ?_
    refine lv_isub hx hb dL_law_28 ?_
    have h4 : x4.toInt = (4 * q : Nat) := by rw [hx4]; exact nI_toInt (by omega)
    refine lv_icmp_gt (tgt := 2324) hx hb dL_law_29 (by decide) (fun cz => ?_) (fun cz => ?_)
    · refine lv_iconst (v := 1) hx hb dL_law_2324 (by decide) ?_
      refine va_forget (fun z hz => hS.2.2 z hz) ?_
      refine W.widen (k := 3102) (n := 118996) (by omega) (by omega) ?_
      refine W.base ?_
      exact lw_ret (Drawn.sameBut.refl s.drawn lw_cs) hx hb hr hlocks dL_law_2325
    · have hlt : 4 * q + 4 ≤ L := by
        have h9 : ¬ ((L : Int) - 4 < x4.toInt) := by rw [← Lm4 hL]; exact fun h => cz (Int32.lt_iff_toInt_lt.mpr h)
        omega
      have kk : ∀ (H : Heap) (locs : List Loc) (S : pS) (T : pT) (o : Nat → Int64), lwI D cI cJ s ad ao bd S o T H → rel S T → va_S (fun q : Nat => s.heap.size ≤ q) s.heap H locs → ∀ ls : Array Slot, lv_has ls 8 [(4, .int x4), (3, .ref ao), (2, .ref (bd 0)), (1, .ref (ad 0)), (0, .ref b)] → W p l e room_1 s m #[Value.ref b] below meth c H locs (17 + 6 * q + 6) (134 + 36 * q + 36) (lw_Z below #[Value.ref b] s) (F0 m 2318 ls []) := by
        intro H locs S T o hI hR hS ls hl
        obtain ⟨y4, ey4⟩ : ∃ y : Int32, y = x4 + 4 := ⟨_, rfl⟩
        refine lv_iinc (v := y4) (lv' := [(4, .int y4), (3, .ref ao), (2, .ref (bd 0)), (1, .ref (ad 0)), (0, .ref b)]) hx hb dL_law_2318 hl (k := 0) rfl (by rw [ey4]; rfl) (by decide) rfl (fun ls hl => ?_)
        refine lv_goto (tgt := 23) hx hb dL_law_2321 (by decide) ?_
        have h8 := ih (f - 4) (by omega) (q + 1) (by omega) (by omega) y4 (by rw [ey4, hx4]; exact nI_add (4 * q) 4) H locs S T o hI hR hS ls hl
        rw [show 17 + 6 * (q + 1) = 17 + 6 * q + 6 by omega, show 134 + 36 * (q + 1) = 134 + 36 * q + 36 by omega] at h8
        exact h8
      obtain ⟨hi0, hi1, hi2, hi3⟩ := lw_n hL hlt hx4
      refine lv_aload_n hx hb dL_law_32 rfl (lv_at hl 4 rfl) ?_
      refine lv_iload hx hb dL_law_33 (lv_at hl 0 rfl) ?_
      refine va_sld hx hb hX hbl hbA hS hi0 dL_law_35 ?_
      refine lv_bipush (v := 63) hx hb dL_law_36 (by decide) ?_
      refine lv_iand hx hb dL_law_38 ?_
      obtain ⟨hy0, hy1⟩ := and63 (xs x4.toNatClampNeg)
      generalize xs x4.toNatClampNeg &&& 63 = y at hy0 hy1 ⊢
      by_cases ho : 33 < y.toInt
      · refine lv_tableOut (tgt := 2318) hx hb dL_law_39 (Or.inr ho) (by decide) ?_
        refine W.widen (k := 17 + 6 * q + 6) (n := 134 + 36 * q + 36) (by omega) (by omega) ?_
        exact kk H locs S T o hI hR hS ls hl
      by_cases h0_34 : y.toInt < 17
      · skip
        by_cases h0_17 : y.toInt < 8
        · skip
          by_cases h0_8 : y.toInt < 4
          · skip
            by_cases h0_4 : y.toInt < 2
            · skip
              by_cases h0_2 : y.toInt < 1
              · skip
                have hy : y.toInt = 0 := by omega
                refine lv_tableIn (off := 149) (tgt := 188) hx hb dL_law_39 (by omega) (by omega) (by rw [hy]; rfl) (by decide) ?_
                exact lw_c0 hfl hL C0 hK hE hNc H locs S T o hI hR hS (4 * q) (by omega) x4 hx4 (17 + 6 * q) (134 + 36 * q) (by omega) (by omega) ls hl kk
              · skip
                have hy : y.toInt = 1 := by omega
                refine lv_tableIn (off := 217) (tgt := 256) hx hb dL_law_39 (by omega) (by omega) (by rw [hy]; rfl) (by decide) ?_
                exact lw_c1 hfl hL C0 hK hE hNc H locs S T o hI hR hS (4 * q) (by omega) x4 hx4 (17 + 6 * q) (134 + 36 * q) (by omega) (by omega) ls hl kk
            · skip
              by_cases h2_4 : y.toInt < 3
              · skip
                have hy : y.toInt = 2 := by omega
                refine lv_tableIn (off := 297) (tgt := 336) hx hb dL_law_39 (by omega) (by omega) (by rw [hy]; rfl) (by decide) ?_
                exact lw_c2 hfl hL C0 hK hE hNc H locs S T o hI hR hS (4 * q) (by omega) x4 hx4 (17 + 6 * q) (134 + 36 * q) (by omega) (by omega) ls hl kk
              · skip
                have hy : y.toInt = 3 := by omega
                refine lv_tableIn (off := 365) (tgt := 404) hx hb dL_law_39 (by omega) (by omega) (by rw [hy]; rfl) (by decide) ?_
                exact lw_c3 hfl hL C0 hK hE hNc H locs S T o hI hR hS (4 * q) (by omega) x4 hx4 (17 + 6 * q) (134 + 36 * q) (by omega) (by omega) ls hl kk
          · skip
            by_cases h4_8 : y.toInt < 6
            · skip
              by_cases h4_6 : y.toInt < 5
              · skip
                have hy : y.toInt = 4 := by omega
                refine lv_tableIn (off := 445) (tgt := 484) hx hb dL_law_39 (by omega) (by omega) (by rw [hy]; rfl) (by decide) ?_
                exact lw_c4 hfl hL C0 hK hE hNc H locs S T o hI hR hS (4 * q) (by omega) x4 hx4 (17 + 6 * q) (134 + 36 * q) (by omega) (by omega) ls hl kk
              · skip
                have hy : y.toInt = 5 := by omega
                refine lv_tableIn (off := 513) (tgt := 552) hx hb dL_law_39 (by omega) (by omega) (by rw [hy]; rfl) (by decide) ?_
                exact lw_c5 hfl hL C0 hK hE hNc H locs S T o hI hR hS (4 * q) (by omega) x4 hx4 (17 + 6 * q) (134 + 36 * q) (by omega) (by omega) ls hl kk
            · skip
              by_cases h6_8 : y.toInt < 7
              · skip
                have hy : y.toInt = 6 := by omega
                refine lv_tableIn (off := 557) (tgt := 596) hx hb dL_law_39 (by omega) (by omega) (by rw [hy]; rfl) (by decide) ?_
                exact lw_c6 hfl hL C0 hK hE hNc H locs S T o hI hR hS (4 * q) (by omega) x4 hx4 (17 + 6 * q) (134 + 36 * q) (by omega) (by omega) ls hl kk
              · skip
                have hy : y.toInt = 7 := by omega
                refine lv_tableIn (off := 570) (tgt := 609) hx hb dL_law_39 (by omega) (by omega) (by rw [hy]; rfl) (by decide) ?_
                exact lw_c7 hfl hL C0 hK hE hNc H locs S T o hI hR hS (4 * q) (by omega) x4 hx4 (17 + 6 * q) (134 + 36 * q) (by omega) (by omega) ls hl kk
        · skip
          by_cases h8_17 : y.toInt < 12
          · skip
            by_cases h8_12 : y.toInt < 10
            · skip
              by_cases h8_10 : y.toInt < 9
              · skip
                have hy : y.toInt = 8 := by omega
                refine lv_tableIn (off := 626) (tgt := 665) hx hb dL_law_39 (by omega) (by omega) (by rw [hy]; rfl) (by decide) ?_
                exact lw_c8 hfl hL C0 hK hE hNc H locs S T o hI hR hS (4 * q) (by omega) x4 hx4 (17 + 6 * q) (134 + 36 * q) (by omega) (by omega) ls hl kk
              · skip
                have hy : y.toInt = 9 := by omega
                refine lv_tableIn (off := 681) (tgt := 720) hx hb dL_law_39 (by omega) (by omega) (by rw [hy]; rfl) (by decide) ?_
                exact lw_c9 hfl hL C0 hK hE hNc H locs S T o hI hR hS (4 * q) (by omega) x4 hx4 (17 + 6 * q) (134 + 36 * q) (by omega) (by omega) ls hl kk
            · skip
              by_cases h10_12 : y.toInt < 11
              · skip
                have hy : y.toInt = 10 := by omega
                refine lv_tableIn (off := 737) (tgt := 776) hx hb dL_law_39 (by omega) (by omega) (by rw [hy]; rfl) (by decide) ?_
                exact lw_c10 hfl hL C0 hK hE hNc H locs S T o hI hR hS (4 * q) (by omega) x4 hx4 (17 + 6 * q) (134 + 36 * q) (by omega) (by omega) ls hl kk
              · skip
                have hy : y.toInt = 11 := by omega
                refine lv_tableIn (off := 792) (tgt := 831) hx hb dL_law_39 (by omega) (by omega) (by rw [hy]; rfl) (by decide) ?_
                exact lw_c11 hfl hL C0 hK hE hNc H locs S T o hI hR hS (4 * q) (by omega) x4 hx4 (17 + 6 * q) (134 + 36 * q) (by omega) (by omega) ls hl kk
          · skip
            by_cases h12_17 : y.toInt < 14
            · skip
              by_cases h12_14 : y.toInt < 13
              · skip
                have hy : y.toInt = 12 := by omega
                refine lv_tableIn (off := 855) (tgt := 894) hx hb dL_law_39 (by omega) (by omega) (by rw [hy]; rfl) (by decide) ?_
                exact lw_c12 hfl hL C0 hK hE hNc H locs S T o hI hR hS (4 * q) (by omega) x4 hx4 (17 + 6 * q) (134 + 36 * q) (by omega) (by omega) ls hl kk
              · skip
                have hy : y.toInt = 13 := by omega
                refine lv_tableIn (off := 910) (tgt := 949) hx hb dL_law_39 (by omega) (by omega) (by rw [hy]; rfl) (by decide) ?_
                exact lw_c13 hfl hL C0 hK hE hNc H locs S T o hI hR hS (4 * q) (by omega) x4 hx4 (17 + 6 * q) (134 + 36 * q) (by omega) (by omega) ls hl kk
            · skip
              by_cases h14_17 : y.toInt < 15
              · skip
                have hy : y.toInt = 14 := by omega
                refine lv_tableIn (off := 978) (tgt := 1017) hx hb dL_law_39 (by omega) (by omega) (by rw [hy]; rfl) (by decide) ?_
                exact lw_c14 hfl hL C0 hK hE hNc H locs S T o hI hR hS (4 * q) (by omega) x4 hx4 (17 + 6 * q) (134 + 36 * q) (by omega) (by omega) ls hl kk
              · skip
                by_cases h15_17 : y.toInt < 16
                · skip
                  have hy : y.toInt = 15 := by omega
                  refine lv_tableIn (off := 1034) (tgt := 1073) hx hb dL_law_39 (by omega) (by omega) (by rw [hy]; rfl) (by decide) ?_
                  exact lw_c15 hfl hL C0 hK hE hNc H locs S T o hI hR hS (4 * q) (by omega) x4 hx4 (17 + 6 * q) (134 + 36 * q) (by omega) (by omega) ls hl kk
                · skip
                  have hy : y.toInt = 16 := by omega
                  refine lv_tableIn (off := 1090) (tgt := 1129) hx hb dL_law_39 (by omega) (by omega) (by rw [hy]; rfl) (by decide) ?_
                  exact lw_c16 hfl hL C0 hK hE hNc H locs S T o hI hR hS (4 * q) (by omega) x4 hx4 (17 + 6 * q) (134 + 36 * q) (by omega) (by omega) ls hl kk
      · skip
        by_cases h17_34 : y.toInt < 25
        · skip
          by_cases h17_25 : y.toInt < 21
          · skip
            by_cases h17_21 : y.toInt < 19
            · skip
              by_cases h17_19 : y.toInt < 18
              · skip
                have hy : y.toInt = 17 := by omega
                refine lv_tableIn (off := 1158) (tgt := 1197) hx hb dL_law_39 (by omega) (by omega) (by rw [hy]; rfl) (by decide) ?_
                exact lw_c17 hfl hL C0 hK hE hNc H locs S T o hI hR hS (4 * q) (by omega) x4 hx4 (17 + 6 * q) (134 + 36 * q) (by omega) (by omega) ls hl kk
              · skip
                have hy : y.toInt = 18 := by omega
                refine lv_tableIn (off := 1226) (tgt := 1265) hx hb dL_law_39 (by omega) (by omega) (by rw [hy]; rfl) (by decide) ?_
                exact lw_c18 hfl hL C0 hK hE hNc H locs S T o hI hR hS (4 * q) (by omega) x4 hx4 (17 + 6 * q) (134 + 36 * q) (by omega) (by omega) ls hl kk
            · skip
              by_cases h19_21 : y.toInt < 20
              · skip
                have hy : y.toInt = 19 := by omega
                refine lv_tableIn (off := 1306) (tgt := 1345) hx hb dL_law_39 (by omega) (by omega) (by rw [hy]; rfl) (by decide) ?_
                exact lw_c19 hfl hL C0 hK hE hNc H locs S T o hI hR hS (4 * q) (by omega) x4 hx4 (17 + 6 * q) (134 + 36 * q) (by omega) (by omega) ls hl kk
              · skip
                have hy : y.toInt = 20 := by omega
                refine lv_tableIn (off := 1374) (tgt := 1413) hx hb dL_law_39 (by omega) (by omega) (by rw [hy]; rfl) (by decide) ?_
                exact lw_c20 hfl hL C0 hK hE hNc H locs S T o hI hR hS (4 * q) (by omega) x4 hx4 (17 + 6 * q) (134 + 36 * q) (by omega) (by omega) ls hl kk
          · skip
            by_cases h21_25 : y.toInt < 23
            · skip
              by_cases h21_23 : y.toInt < 22
              · skip
                have hy : y.toInt = 21 := by omega
                refine lv_tableIn (off := 1441) (tgt := 1480) hx hb dL_law_39 (by omega) (by omega) (by rw [hy]; rfl) (by decide) ?_
                exact lw_c21 hfl hL C0 hK hE hNc H locs S T o hI hR hS (4 * q) (by omega) x4 hx4 (17 + 6 * q) (134 + 36 * q) (by omega) (by omega) ls hl kk
              · skip
                have hy : y.toInt = 22 := by omega
                refine lv_tableIn (off := 1521) (tgt := 1560) hx hb dL_law_39 (by omega) (by omega) (by rw [hy]; rfl) (by decide) ?_
                exact lw_c22 hfl hL C0 hK hE hNc H locs S T o hI hR hS (4 * q) (by omega) x4 hx4 (17 + 6 * q) (134 + 36 * q) (by omega) (by omega) ls hl kk
            · skip
              by_cases h23_25 : y.toInt < 24
              · skip
                have hy : y.toInt = 23 := by omega
                refine lv_tableIn (off := 1596) (tgt := 1635) hx hb dL_law_39 (by omega) (by omega) (by rw [hy]; rfl) (by decide) ?_
                exact lw_c23 hfl hL C0 hK hE hNc H locs S T o hI hR hS (4 * q) (by omega) x4 hx4 (17 + 6 * q) (134 + 36 * q) (by omega) (by omega) ls hl kk
              · skip
                have hy : y.toInt = 24 := by omega
                refine lv_tableIn (off := 1671) (tgt := 1710) hx hb dL_law_39 (by omega) (by omega) (by rw [hy]; rfl) (by decide) ?_
                exact lw_c24 hfl hL C0 hK hE hNc H locs S T o hI hR hS (4 * q) (by omega) x4 hx4 (17 + 6 * q) (134 + 36 * q) (by omega) (by omega) ls hl kk
        · skip
          by_cases h25_34 : y.toInt < 29
          · skip
            by_cases h25_29 : y.toInt < 27
            · skip
              by_cases h25_27 : y.toInt < 26
              · skip
                have hy : y.toInt = 25 := by omega
                refine lv_tableIn (off := 1758) (tgt := 1797) hx hb dL_law_39 (by omega) (by omega) (by rw [hy]; rfl) (by decide) ?_
                exact lw_c25 hfl hL C0 hK hE hNc H locs S T o hI hR hS (4 * q) (by omega) x4 hx4 (17 + 6 * q) (134 + 36 * q) (by omega) (by omega) ls hl kk
              · skip
                have hy : y.toInt = 26 := by omega
                refine lv_tableIn (off := 1845) (tgt := 1884) hx hb dL_law_39 (by omega) (by omega) (by rw [hy]; rfl) (by decide) ?_
                exact lw_c26 hfl hL C0 hK hE hNc H locs S T o hI hR hS (4 * q) (by omega) x4 hx4 (17 + 6 * q) (134 + 36 * q) (by omega) (by omega) ls hl kk
            · skip
              by_cases h27_29 : y.toInt < 28
              · skip
                have hy : y.toInt = 27 := by omega
                refine lv_tableIn (off := 1900) (tgt := 1939) hx hb dL_law_39 (by omega) (by omega) (by rw [hy]; rfl) (by decide) ?_
                exact lw_c27 hfl hL C0 hK hE hNc H locs S T o hI hR hS (4 * q) (by omega) x4 hx4 (17 + 6 * q) (134 + 36 * q) (by omega) (by omega) ls hl kk
              · skip
                have hy : y.toInt = 28 := by omega
                refine lv_tableIn (off := 1963) (tgt := 2002) hx hb dL_law_39 (by omega) (by omega) (by rw [hy]; rfl) (by decide) ?_
                exact lw_c28 hfl hL C0 hK hE hNc H locs S T o hI hR hS (4 * q) (by omega) x4 hx4 (17 + 6 * q) (134 + 36 * q) (by omega) (by omega) ls hl kk
          · skip
            by_cases h29_34 : y.toInt < 31
            · skip
              by_cases h29_31 : y.toInt < 30
              · skip
                have hy : y.toInt = 29 := by omega
                refine lv_tableIn (off := 2030) (tgt := 2069) hx hb dL_law_39 (by omega) (by omega) (by rw [hy]; rfl) (by decide) ?_
                exact lw_c29 hfl hL C0 hK hE hNc H locs S T o hI hR hS (4 * q) (by omega) x4 hx4 (17 + 6 * q) (134 + 36 * q) (by omega) (by omega) ls hl kk
              · skip
                have hy : y.toInt = 30 := by omega
                refine lv_tableIn (off := 2085) (tgt := 2124) hx hb dL_law_39 (by omega) (by omega) (by rw [hy]; rfl) (by decide) ?_
                exact lw_c30 hfl hL C0 hK hE hNc H locs S T o hI hR hS (4 * q) (by omega) x4 hx4 (17 + 6 * q) (134 + 36 * q) (by omega) (by omega) ls hl kk
            · skip
              by_cases h31_34 : y.toInt < 32
              · skip
                have hy : y.toInt = 31 := by omega
                refine lv_tableIn (off := 2148) (tgt := 2187) hx hb dL_law_39 (by omega) (by omega) (by rw [hy]; rfl) (by decide) ?_
                exact lw_c31 hfl hL C0 hK hE hNc H locs S T o hI hR hS (4 * q) (by omega) x4 hx4 (17 + 6 * q) (134 + 36 * q) (by omega) (by omega) ls hl kk
              · skip
                by_cases h32_34 : y.toInt < 33
                · skip
                  have hy : y.toInt = 32 := by omega
                  refine lv_tableIn (off := 2203) (tgt := 2242) hx hb dL_law_39 (by omega) (by omega) (by rw [hy]; rfl) (by decide) ?_
                  exact lw_c32 hfl hL C0 hK hE hNc H locs S T o hI hR hS (4 * q) (by omega) x4 hx4 (17 + 6 * q) (134 + 36 * q) (by omega) (by omega) ls hl kk
                · skip
                  have hy : y.toInt = 33 := by omega
                  refine lv_tableIn (off := 2266) (tgt := 2305) hx hb dL_law_39 (by omega) (by omega) (by rw [hy]; rfl) (by decide) ?_
                  exact lw_c33 hfl hL C0 hK hE hNc H locs S T o hI hR hS (4 * q) (by omega) x4 hx4 (17 + 6 * q) (134 + 36 * q) (by omega) (by omega) ls hl kk

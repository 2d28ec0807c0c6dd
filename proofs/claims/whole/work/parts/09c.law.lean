set_option maxHeartbeats 4000000 in
set_option maxRecDepth 100000 in
theorem lw_c23 {p : Program} {l : Launch} {e : Env} {s : State} {m : MethodId} {below : List Frame} {meth : Method} {c : Code} {b L : Nat} {xs : Nat → Int32} (hfl : l.stackTraces = false) (hL : L ≤ 2048) (C0 : lw_At p s m meth c b L xs) {D : va_G} {cI cJ : ClassId} {ad : Nat → Nat} {ao : Nat} {bd : Nat → Nat} (hK : va_K D pCl (pTy cI cJ) s) (hE : xE (fun q : Nat => s.heap.size ≤ q) s s.heap) (hNc : xN s) (H : Heap) (locs : List Loc) (S : pS) (T : pT) (o : Nat → Int64) (hI : lwI D cI cJ s ad ao bd S o T H) (hR : rel S T) (hS : va_S (fun q : Nat => s.heap.size ≤ q) s.heap H locs) (i : Nat) (hi : i + 4 ≤ L) (x4 : Int32) (hx4 : x4 = nI i) (k n : Nat) (hk : k + 6 ≤ 3102) (hn : n + 36 ≤ 118996) (ls : Array Slot) (hl : lv_has ls 8 [(4, .int x4), (3, .ref ao), (2, .ref (bd 0)), (1, .ref (ad 0)), (0, .ref b)])
    (K : ∀ (H : Heap) (locs : List Loc) (S : pS) (T : pT) (o : Nat → Int64), lwI D cI cJ s ad ao bd S o T H → rel S T → va_S (fun q : Nat => s.heap.size ≤ q) s.heap H locs → ∀ ls : Array Slot, lv_has ls 8 [(4, .int x4), (3, .ref ao), (2, .ref (bd 0)), (1, .ref (ad 0)), (0, .ref b)] → W p l e room_1 s m #[Value.ref b] below meth c H locs (k + 6) (n + 36) (lw_Z below #[Value.ref b] s) (F0 m 2318 ls [])) : W p l e room_1 s m #[Value.ref b] below meth c H locs k n (lw_Z below #[Value.ref b] s) (F0 m 1635 ls []) := by
  obtain ⟨hx, hb, hr, hml, hown, hts, hX, hbl, hlocks, hgv⟩ := C0
  have hb : c.code = cL_law := hb
  have hown : s.vm.findClass RL = some m.cls := hown
  have hts : ∀ w ∈ wsL_law, w.before #[Value.ref b] s = true := fun w hw => hts w (wsL_law_in w hw)
  have hbA : ¬ (fun q : Nat => s.heap.size ≤ q) b := Nat.not_le.mpr hbl
  obtain ⟨hi0, hi1, hi2, hi3⟩ := lw_n hL hi hx4
  refine lv_aload_n hx hb dL_law_1635 rfl (lv_at hl 3 rfl) ?_
  refine lv_aload_n hx hb dL_law_1636 rfl (lv_at hl 4 rfl) ?_
  refine lv_iload hx hb dL_law_1637 (lv_at hl 0 rfl) ?_
  refine lv_iconst (v := 1) hx hb dL_law_1639 (by decide) ?_
  refine lv_iadd hx hb dL_law_1640 ?_
  refine va_sld hx hb hX hbl hbA hS hi1 dL_law_1641 ?_
  refine lv_aload_n hx hb dL_law_1642 rfl (lv_at hl 4 rfl) ?_
  refine lv_iload hx hb dL_law_1643 (lv_at hl 0 rfl) ?_
  refine lv_iconst (v := 2) hx hb dL_law_1645 (by decide) ?_
  refine lv_iadd hx hb dL_law_1646 ?_
  refine va_sld hx hb hX hbl hbA hS hi2 dL_law_1647 ?_
  refine lv_aload_n hx hb dL_law_1648 rfl (lv_at hl 1 rfl) ?_
  refine va_calli (vx_runSW (As := [.ref (ad 0), .int (xs (x4 + 1).toNatClampNeg), .int (xs (x4 + 2).toNatClampNeg), .ref ao]) (rest := []) ⟨hx, hb, hml, hown, hts⟩ (met_L_isChain l hfl D cI cJ ad ao (lwX s bd) S o ((xs (x4 + 1).toNatClampNeg)) ((xs (x4 + 2).toNatClampNeg))) (vx_cwSW 4 hts gL_law_L_isChain rfl rfl rfl (by decide +kernel) ⟨Nat.le_of_ble_eq_true rfl, Nat.le_of_ble_eq_true rfl⟩) ⟨fun a U g mk q => ⟨q.1, q.2.1, va_K.moved (u := U) (U := U.calling g mk a) (Vm.Alike.refl U.vm) q.2.2.1, q.2.2.2.1, xE_calling q.2.2.2.2.1, xN_calling q.2.2.2.2.2⟩, fun U hU hW => ⟨rfl, by rw [hU]; exact hI.1, va_K.moved hW.alike hK, hI.2.2.1, xE_narrow (xE_at hE hS hU hW) (fun q h => h.elim), xN_at hNc hW⟩⟩ rfl rfl hl.1 rfl (lv_room (Nat.le_of_ble_eq_true rfl)) dL_law_1649 ⟨by show _ ≤ 3102; omega, by show _ ≤ 118996; omega⟩) hS (fun q _ h => h.1) (fun q h => h.1) (fun r u t H1 locs ht hvm hw hB hz hk1 hS => ?_)
  rw [ht] at hB
  have hI := lwI_x hI hB hk1
  generalize H1 = H at hI hS ⊢
  refine lv_istore (lv' := [(5, .int r), (4, .int x4), (3, .ref ao), (2, .ref (bd 0)), (1, .ref (ad 0)), (0, .ref b)]) hx hb dL_law_1652 hl (by decide) rfl (fun ls hl => ?_)
  refine lv_aload_n hx hb dL_law_1654 rfl (lv_at hl 3 rfl) ?_
  refine lv_aload_n hx hb dL_law_1655 rfl (lv_at hl 5 rfl) ?_
  refine lv_iload hx hb dL_law_1656 (lv_at hl 1 rfl) ?_
  refine lv_iconst (v := 1) hx hb dL_law_1658 (by decide) ?_
  refine lv_iadd hx hb dL_law_1659 ?_
  refine va_sld hx hb hX hbl hbA hS hi1 dL_law_1660 ?_
  refine lv_aload_n hx hb dL_law_1661 rfl (lv_at hl 5 rfl) ?_
  refine lv_iload hx hb dL_law_1662 (lv_at hl 1 rfl) ?_
  refine lv_iconst (v := 2) hx hb dL_law_1664 (by decide) ?_
  refine lv_iadd hx hb dL_law_1665 ?_
  refine va_sld hx hb hX hbl hbA hS hi2 dL_law_1666 ?_
  refine va_calli (va_runV (As := [.int (xs (x4 + 1).toNatClampNeg), .int (xs (x4 + 2).toNatClampNeg)]) (rest := []) ⟨hx, hb, hml, hown, hts⟩ (met_X1_isChain l D cI cJ bd (lwM s ad ao) T ((xs (x4 + 1).toNatClampNeg)) ((xs (x4 + 2).toNatClampNeg))) (cwV 2 hts gL_law_X1_isChain rfl rfl rfl (by decide +kernel) ⟨Nat.le_of_ble_eq_true rfl, Nat.le_of_ble_eq_true rfl⟩) ⟨fun a U g mk q => ⟨q.1, b1R_calling q.2.1, q.2.2⟩, va_recv hK hI.2.1 (ci := 1) (q0 := 0) rfl rfl, fun U hU hW => ⟨rfl, b1R_at hI.2.1 hK hU hW, hI.2.2.2⟩⟩ rfl rfl hl.1 rfl (lv_room (Nat.le_of_ble_eq_true rfl)) dL_law_1667 ⟨by show _ ≤ 3102; omega, by show _ ≤ 118996; omega⟩) hS (fun q _ h => h.1) (fun q h => h.1) (fun r2 u2 t H1 locs ht hvm hw2 hB hz hk2 hS => ?_)
  obtain ⟨hP1, hD1⟩ := hB
  rw [ht] at hP1
  have hI := lwI_m hI hP1 hD1 hk2
  generalize H1 = H at hI hS ⊢
  obtain ⟨hw2, -⟩ := hw2
  have hg := ag_isChain hR o ((xs (x4 + 1).toNatClampNeg)) ((xs (x4 + 2).toNatClampNeg))
  rw [hw, hw2] at hg
  obtain ⟨hg1, hR, hg3⟩ := hg
  refine lv_istore (lv' := [(6, .int r2), (5, .int r), (4, .int x4), (3, .ref ao), (2, .ref (bd 0)), (1, .ref (ad 0)), (0, .ref b)]) hx hb dL_law_1670 hl (by decide) rfl (fun ls hl => ?_)
  refine lv_aload_n hx hb dL_law_1672 rfl (lv_at hl 4 rfl) ?_
  refine va_calli (va_runV (As := []) (rest := []) ⟨hx, hb, hml, hown, hts⟩ (met_X1_thrown l D cI cJ bd u2) (cwV 0 hts gL_law_X1_thrown rfl rfl rfl (by decide +kernel) ⟨Nat.le_of_ble_eq_true rfl, Nat.le_of_ble_eq_true rfl⟩) ⟨fun a U g mk q => ⟨q.1, b1R_calling q.2⟩, va_recv hK hI.2.1 (ci := 1) (q0 := 0) rfl rfl, fun U hU hW => ⟨rfl, b1R_at hI.2.1 hK hU hW⟩⟩ rfl rfl hl.1 rfl (lv_room (Nat.le_of_ble_eq_true rfl)) dL_law_1673 ⟨by show _ ≤ 3102; omega, by show _ ≤ 118996; omega⟩) hS (fun q _ h => h.elim) (fun q h => h.elim) (fun r3 u3 t H1 locs ht hvm hw3 hB hz hk2 hS => ?_)
  have hI := lwI_k hI hk2
  generalize H1 = H at hI hS ⊢
  have hr3 : r3 = r := by rw [← hw3]; exact hg1
  refine W.widen (k := k + 6) (n := n + 36) (by omega) (by omega) ?_
  refine lv_iload hx hb dL_law_1676 (lv_at hl 1 rfl) ?_
  refine lv_icmp_eq (tgt := 1683) hx hb dL_law_1678 (by decide) (fun cz => ?_) (fun cz => absurd hr3 cz)
  refine lv_iload hx hb dL_law_1683 (lv_at hl 1 rfl) ?_
  have kk : W p l e room_1 s m #[Value.ref b] below meth c H locs (k + 6) (n + 36) (lw_Z below #[Value.ref b] s) (F0 m 1707 ls []) := by
    refine lv_goto (tgt := 2318) hx hb dL_law_1707 (by decide) ?_
    exact K _ _ _ _ _ hI hR hS _ (lv_sub hl [2, 3, 4, 5, 6] rfl)
  refine lv_if_ne (tgt := 1707) hx hb dL_law_1685 (by decide) (fun cz2 => kk) (fun cz2 => ?_)
  refine lv_aload_n hx hb dL_law_1688 rfl (lv_at hl 3 rfl) ?_
  refine lv_iconst (v := 0) hx hb dL_law_1689 (by decide) ?_
  refine va_lald hx hb hK hI.1 8 1 rfl rfl in01 dL_law_1690 ?_
  refine lv_iload hx hb dL_law_1691 (lv_at hl 0 rfl) ?_
  refine lv_if_eq (tgt := 1700) hx hb dL_law_1693 (by decide) (fun cz4 => ?_) (fun cz4 => ?_)
  · refine lv_lconst (v := 0) hx hb dL_law_1700 rfl ?_
    refine W.lcmp hx hb dL_law_1701 ?_
    refine lv_if_eq (tgt := 1707) hx hb dL_law_1702 (by decide) (fun cz3 => kk) (fun cz3 => absurd ((lg_cmp_eq _ _).mpr (by rw [show u.2 ((0 : Int32).toNatClampNeg) = _ from hg3 cz2, if_pos cz4])) cz3)
  · refine lv_lconst (v := 1) hx hb dL_law_1696 rfl ?_
    refine lv_goto (tgt := 1701) hx hb dL_law_1697 (by decide) ?_
    refine W.lcmp hx hb dL_law_1701 ?_
    refine lv_if_eq (tgt := 1707) hx hb dL_law_1702 (by decide) (fun cz3 => kk) (fun cz3 => absurd ((lg_cmp_eq _ _).mpr (by rw [show u.2 ((0 : Int32).toNatClampNeg) = _ from hg3 cz2, if_neg cz4])) cz3)

set_option maxHeartbeats 4000000 in
set_option maxRecDepth 100000 in
theorem lw_c24 {p : Program} {l : Launch} {e : Env} {s : State} {m : MethodId} {below : List Frame} {meth : Method} {c : Code} {b L : Nat} {xs : Nat → Int32} (hfl : l.stackTraces = false) (hL : L ≤ 2048) (C0 : lw_At p s m meth c b L xs) {D : va_G} {cI cJ : ClassId} {ad : Nat → Nat} {ao : Nat} {bd : Nat → Nat} (hK : va_K D pCl (pTy cI cJ) s) (hE : xE (fun q : Nat => s.heap.size ≤ q) s s.heap) (hNc : xN s) (H : Heap) (locs : List Loc) (S : pS) (T : pT) (o : Nat → Int64) (hI : lwI D cI cJ s ad ao bd S o T H) (hR : rel S T) (hS : va_S (fun q : Nat => s.heap.size ≤ q) s.heap H locs) (i : Nat) (hi : i + 4 ≤ L) (x4 : Int32) (hx4 : x4 = nI i) (k n : Nat) (hk : k + 6 ≤ 3102) (hn : n + 36 ≤ 118996) (ls : Array Slot) (hl : lv_has ls 8 [(4, .int x4), (3, .ref ao), (2, .ref (bd 0)), (1, .ref (ad 0)), (0, .ref b)])
    (K : ∀ (H : Heap) (locs : List Loc) (S : pS) (T : pT) (o : Nat → Int64), lwI D cI cJ s ad ao bd S o T H → rel S T → va_S (fun q : Nat => s.heap.size ≤ q) s.heap H locs → ∀ ls : Array Slot, lv_has ls 8 [(4, .int x4), (3, .ref ao), (2, .ref (bd 0)), (1, .ref (ad 0)), (0, .ref b)] → W p l e room_1 s m #[Value.ref b] below meth c H locs (k + 6) (n + 36) (lw_Z below #[Value.ref b] s) (F0 m 2318 ls [])) : W p l e room_1 s m #[Value.ref b] below meth c H locs k n (lw_Z below #[Value.ref b] s) (F0 m 1710 ls []) := by
  obtain ⟨hx, hb, hr, hml, hown, hts, hX, hbl, hlocks, hgv⟩ := C0
  have hb : c.code = cL_law := hb
  have hown : s.vm.findClass RL = some m.cls := hown
  have hts : ∀ w ∈ wsL_law, w.before #[Value.ref b] s = true := fun w hw => hts w (wsL_law_in w hw)
  have hbA : ¬ (fun q : Nat => s.heap.size ≤ q) b := Nat.not_le.mpr hbl
  obtain ⟨hi0, hi1, hi2, hi3⟩ := lw_n hL hi hx4
  refine lv_aload_n hx hb dL_law_1710 rfl (lv_at hl 3 rfl) ?_
  refine lv_aload_n hx hb dL_law_1711 rfl (lv_at hl 4 rfl) ?_
  refine lv_iload hx hb dL_law_1712 (lv_at hl 0 rfl) ?_
  refine lv_iconst (v := 1) hx hb dL_law_1714 (by decide) ?_
  refine lv_iadd hx hb dL_law_1715 ?_
  refine va_sld hx hb hX hbl hbA hS hi1 dL_law_1716 ?_
  refine lv_aload_n hx hb dL_law_1717 rfl (lv_at hl 4 rfl) ?_
  refine lv_iload hx hb dL_law_1718 (lv_at hl 0 rfl) ?_
  refine lv_iconst (v := 2) hx hb dL_law_1720 (by decide) ?_
  refine lv_iadd hx hb dL_law_1721 ?_
  refine va_sld hx hb hX hbl hbA hS hi2 dL_law_1722 ?_
  refine lv_aload_n hx hb dL_law_1723 rfl (lv_at hl 4 rfl) ?_
  refine lv_iload hx hb dL_law_1724 (lv_at hl 0 rfl) ?_
  refine lv_iconst (v := 3) hx hb dL_law_1726 (by decide) ?_
  refine lv_iadd hx hb dL_law_1727 ?_
  refine va_sld hx hb hX hbl hbA hS hi3 dL_law_1728 ?_
  refine lv_aload_n hx hb dL_law_1729 rfl (lv_at hl 1 rfl) ?_
  refine va_calli (vx_runSW (As := [.ref (ad 0), .int (xs (x4 + 1).toNatClampNeg), .int (xs (x4 + 2).toNatClampNeg), .int (xs (x4 + 3).toNatClampNeg), .ref ao]) (rest := []) ⟨hx, hb, hml, hown, hts⟩ (met_L_addsUp l hfl D cI cJ ad ao (lwX s bd) S o ((xs (x4 + 1).toNatClampNeg)) ((xs (x4 + 2).toNatClampNeg)) ((xs (x4 + 3).toNatClampNeg)) (nn_addsUp ((xs (x4 + 1).toNatClampNeg)) ((xs (x4 + 2).toNatClampNeg)) ((xs (x4 + 3).toNatClampNeg)))) (vx_cwSW 5 hts gL_law_L_addsUp rfl rfl rfl (by decide +kernel) ⟨Nat.le_of_ble_eq_true rfl, Nat.le_of_ble_eq_true rfl⟩) ⟨fun a U g mk q => ⟨q.1, q.2.1, va_K.moved (u := U) (U := U.calling g mk a) (Vm.Alike.refl U.vm) q.2.2.1, q.2.2.2.1, xE_calling q.2.2.2.2.1, xN_calling q.2.2.2.2.2⟩, fun U hU hW => ⟨rfl, by rw [hU]; exact hI.1, va_K.moved hW.alike hK, hI.2.2.1, xE_narrow (xE_at hE hS hU hW) (fun q h => h.elim), xN_at hNc hW⟩⟩ rfl rfl hl.1 rfl (lv_room (Nat.le_of_ble_eq_true rfl)) dL_law_1730 ⟨by show _ ≤ 3102; omega, by show _ ≤ 118996; omega⟩) hS (fun q _ h => h.1) (fun q h => h.1) (fun r u t H1 locs ht hvm hw hB hz hk1 hS => ?_)
  rw [ht] at hB
  have hI := lwI_x hI hB hk1
  generalize H1 = H at hI hS ⊢
  refine lv_istore (lv' := [(5, .int r), (4, .int x4), (3, .ref ao), (2, .ref (bd 0)), (1, .ref (ad 0)), (0, .ref b)]) hx hb dL_law_1733 hl (by decide) rfl (fun ls hl => ?_)
  refine lv_aload_n hx hb dL_law_1735 rfl (lv_at hl 3 rfl) ?_
  refine lv_aload_n hx hb dL_law_1736 rfl (lv_at hl 5 rfl) ?_
  refine lv_iload hx hb dL_law_1737 (lv_at hl 1 rfl) ?_
  refine lv_iconst (v := 1) hx hb dL_law_1739 (by decide) ?_
  refine lv_iadd hx hb dL_law_1740 ?_
  refine va_sld hx hb hX hbl hbA hS hi1 dL_law_1741 ?_
  refine lv_aload_n hx hb dL_law_1742 rfl (lv_at hl 5 rfl) ?_
  refine lv_iload hx hb dL_law_1743 (lv_at hl 1 rfl) ?_
  refine lv_iconst (v := 2) hx hb dL_law_1745 (by decide) ?_
  refine lv_iadd hx hb dL_law_1746 ?_
  refine va_sld hx hb hX hbl hbA hS hi2 dL_law_1747 ?_
  refine lv_aload_n hx hb dL_law_1748 rfl (lv_at hl 5 rfl) ?_
  refine lv_iload hx hb dL_law_1749 (lv_at hl 1 rfl) ?_
  refine lv_iconst (v := 3) hx hb dL_law_1751 (by decide) ?_
  refine lv_iadd hx hb dL_law_1752 ?_
  refine va_sld hx hb hX hbl hbA hS hi3 dL_law_1753 ?_
  refine va_calli (va_runV (As := [.int (xs (x4 + 1).toNatClampNeg), .int (xs (x4 + 2).toNatClampNeg), .int (xs (x4 + 3).toNatClampNeg)]) (rest := []) ⟨hx, hb, hml, hown, hts⟩ (met_X1_addsUp l D cI cJ bd (lwM s ad ao) T ((xs (x4 + 1).toNatClampNeg)) ((xs (x4 + 2).toNatClampNeg)) ((xs (x4 + 3).toNatClampNeg))) (cwV 3 hts gL_law_X1_addsUp rfl rfl rfl (by decide +kernel) ⟨Nat.le_of_ble_eq_true rfl, Nat.le_of_ble_eq_true rfl⟩) ⟨fun a U g mk q => ⟨q.1, b1R_calling q.2.1, q.2.2⟩, va_recv hK hI.2.1 (ci := 1) (q0 := 0) rfl rfl, fun U hU hW => ⟨rfl, b1R_at hI.2.1 hK hU hW, hI.2.2.2⟩⟩ rfl rfl hl.1 rfl (lv_room (Nat.le_of_ble_eq_true rfl)) dL_law_1754 ⟨by show _ ≤ 3102; omega, by show _ ≤ 118996; omega⟩) hS (fun q _ h => h.1) (fun q h => h.1) (fun r2 u2 t H1 locs ht hvm hw2 hB hz hk2 hS => ?_)
  obtain ⟨hP1, hD1⟩ := hB
  rw [ht] at hP1
  have hI := lwI_m hI hP1 hD1 hk2
  generalize H1 = H at hI hS ⊢
  obtain ⟨hw2, -⟩ := hw2
  have hg := ag_addsUp hR o ((xs (x4 + 1).toNatClampNeg)) ((xs (x4 + 2).toNatClampNeg)) ((xs (x4 + 3).toNatClampNeg))
  rw [hw, hw2] at hg
  obtain ⟨hg1, hR, hg3⟩ := hg
  refine lv_istore (lv' := [(6, .int r2), (5, .int r), (4, .int x4), (3, .ref ao), (2, .ref (bd 0)), (1, .ref (ad 0)), (0, .ref b)]) hx hb dL_law_1757 hl (by decide) rfl (fun ls hl => ?_)
  refine lv_aload_n hx hb dL_law_1759 rfl (lv_at hl 4 rfl) ?_
  refine va_calli (va_runV (As := []) (rest := []) ⟨hx, hb, hml, hown, hts⟩ (met_X1_thrown l D cI cJ bd u2) (cwV 0 hts gL_law_X1_thrown rfl rfl rfl (by decide +kernel) ⟨Nat.le_of_ble_eq_true rfl, Nat.le_of_ble_eq_true rfl⟩) ⟨fun a U g mk q => ⟨q.1, b1R_calling q.2⟩, va_recv hK hI.2.1 (ci := 1) (q0 := 0) rfl rfl, fun U hU hW => ⟨rfl, b1R_at hI.2.1 hK hU hW⟩⟩ rfl rfl hl.1 rfl (lv_room (Nat.le_of_ble_eq_true rfl)) dL_law_1760 ⟨by show _ ≤ 3102; omega, by show _ ≤ 118996; omega⟩) hS (fun q _ h => h.elim) (fun q h => h.elim) (fun r3 u3 t H1 locs ht hvm hw3 hB hz hk2 hS => ?_)
  have hI := lwI_k hI hk2
  generalize H1 = H at hI hS ⊢
  have hr3 : r3 = r := by rw [← hw3]; exact hg1
  refine W.widen (k := k + 6) (n := n + 36) (by omega) (by omega) ?_
  refine lv_iload hx hb dL_law_1763 (lv_at hl 1 rfl) ?_
  refine lv_icmp_eq (tgt := 1770) hx hb dL_law_1765 (by decide) (fun cz => ?_) (fun cz => absurd hr3 cz)
  refine lv_iload hx hb dL_law_1770 (lv_at hl 1 rfl) ?_
  have kk : W p l e room_1 s m #[Value.ref b] below meth c H locs (k + 6) (n + 36) (lw_Z below #[Value.ref b] s) (F0 m 1794 ls []) := by
    refine lv_goto (tgt := 2318) hx hb dL_law_1794 (by decide) ?_
    exact K _ _ _ _ _ hI hR hS _ (lv_sub hl [2, 3, 4, 5, 6] rfl)
  refine lv_if_ne (tgt := 1794) hx hb dL_law_1772 (by decide) (fun cz2 => kk) (fun cz2 => ?_)
  refine lv_aload_n hx hb dL_law_1775 rfl (lv_at hl 3 rfl) ?_
  refine lv_iconst (v := 0) hx hb dL_law_1776 (by decide) ?_
  refine va_lald hx hb hK hI.1 8 1 rfl rfl in01 dL_law_1777 ?_
  refine lv_iload hx hb dL_law_1778 (lv_at hl 0 rfl) ?_
  refine lv_if_eq (tgt := 1787) hx hb dL_law_1780 (by decide) (fun cz4 => ?_) (fun cz4 => ?_)
  · refine lv_lconst (v := 0) hx hb dL_law_1787 rfl ?_
    refine W.lcmp hx hb dL_law_1788 ?_
    refine lv_if_eq (tgt := 1794) hx hb dL_law_1789 (by decide) (fun cz3 => kk) (fun cz3 => absurd ((lg_cmp_eq _ _).mpr (by rw [show u.2 ((0 : Int32).toNatClampNeg) = _ from hg3 cz2, if_pos cz4])) cz3)
  · refine lv_lconst (v := 1) hx hb dL_law_1783 rfl ?_
    refine lv_goto (tgt := 1788) hx hb dL_law_1784 (by decide) ?_
    refine W.lcmp hx hb dL_law_1788 ?_
    refine lv_if_eq (tgt := 1794) hx hb dL_law_1789 (by decide) (fun cz3 => kk) (fun cz3 => absurd ((lg_cmp_eq _ _).mpr (by rw [show u.2 ((0 : Int32).toNatClampNeg) = _ from hg3 cz2, if_neg cz4])) cz3)

set_option maxHeartbeats 4000000 in
set_option maxRecDepth 100000 in
theorem lw_c25 {p : Program} {l : Launch} {e : Env} {s : State} {m : MethodId} {below : List Frame} {meth : Method} {c : Code} {b L : Nat} {xs : Nat → Int32} (hfl : l.stackTraces = false) (hL : L ≤ 2048) (C0 : lw_At p s m meth c b L xs) {D : va_G} {cI cJ : ClassId} {ad : Nat → Nat} {ao : Nat} {bd : Nat → Nat} (hK : va_K D pCl (pTy cI cJ) s) (hE : xE (fun q : Nat => s.heap.size ≤ q) s s.heap) (hNc : xN s) (H : Heap) (locs : List Loc) (S : pS) (T : pT) (o : Nat → Int64) (hI : lwI D cI cJ s ad ao bd S o T H) (hR : rel S T) (hS : va_S (fun q : Nat => s.heap.size ≤ q) s.heap H locs) (i : Nat) (hi : i + 4 ≤ L) (x4 : Int32) (hx4 : x4 = nI i) (k n : Nat) (hk : k + 6 ≤ 3102) (hn : n + 36 ≤ 118996) (ls : Array Slot) (hl : lv_has ls 8 [(4, .int x4), (3, .ref ao), (2, .ref (bd 0)), (1, .ref (ad 0)), (0, .ref b)])
    (K : ∀ (H : Heap) (locs : List Loc) (S : pS) (T : pT) (o : Nat → Int64), lwI D cI cJ s ad ao bd S o T H → rel S T → va_S (fun q : Nat => s.heap.size ≤ q) s.heap H locs → ∀ ls : Array Slot, lv_has ls 8 [(4, .int x4), (3, .ref ao), (2, .ref (bd 0)), (1, .ref (ad 0)), (0, .ref b)] → W p l e room_1 s m #[Value.ref b] below meth c H locs (k + 6) (n + 36) (lw_Z below #[Value.ref b] s) (F0 m 2318 ls [])) : W p l e room_1 s m #[Value.ref b] below meth c H locs k n (lw_Z below #[Value.ref b] s) (F0 m 1797 ls []) := by
  obtain ⟨hx, hb, hr, hml, hown, hts, hX, hbl, hlocks, hgv⟩ := C0
  have hb : c.code = cL_law := hb
  have hown : s.vm.findClass RL = some m.cls := hown
  have hts : ∀ w ∈ wsL_law, w.before #[Value.ref b] s = true := fun w hw => hts w (wsL_law_in w hw)
  have hbA : ¬ (fun q : Nat => s.heap.size ≤ q) b := Nat.not_le.mpr hbl
  obtain ⟨hi0, hi1, hi2, hi3⟩ := lw_n hL hi hx4
  refine lv_aload_n hx hb dL_law_1797 rfl (lv_at hl 3 rfl) ?_
  refine lv_aload_n hx hb dL_law_1798 rfl (lv_at hl 4 rfl) ?_
  refine lv_iload hx hb dL_law_1799 (lv_at hl 0 rfl) ?_
  refine lv_iconst (v := 1) hx hb dL_law_1801 (by decide) ?_
  refine lv_iadd hx hb dL_law_1802 ?_
  refine va_sld hx hb hX hbl hbA hS hi1 dL_law_1803 ?_
  refine lv_aload_n hx hb dL_law_1804 rfl (lv_at hl 4 rfl) ?_
  refine lv_iload hx hb dL_law_1805 (lv_at hl 0 rfl) ?_
  refine lv_iconst (v := 2) hx hb dL_law_1807 (by decide) ?_
  refine lv_iadd hx hb dL_law_1808 ?_
  refine va_sld hx hb hX hbl hbA hS hi2 dL_law_1809 ?_
  refine lv_aload_n hx hb dL_law_1810 rfl (lv_at hl 4 rfl) ?_
  refine lv_iload hx hb dL_law_1811 (lv_at hl 0 rfl) ?_
  refine lv_iconst (v := 3) hx hb dL_law_1813 (by decide) ?_
  refine lv_iadd hx hb dL_law_1814 ?_
  refine va_sld hx hb hX hbl hbA hS hi3 dL_law_1815 ?_
  refine lv_aload_n hx hb dL_law_1816 rfl (lv_at hl 1 rfl) ?_
  refine va_calli (vx_runSW (As := [.ref (ad 0), .int (xs (x4 + 1).toNatClampNeg), .int (xs (x4 + 2).toNatClampNeg), .int (xs (x4 + 3).toNatClampNeg), .ref ao]) (rest := []) ⟨hx, hb, hml, hown, hts⟩ (met_L_isNested l hfl D cI cJ ad ao (lwX s bd) S o ((xs (x4 + 1).toNatClampNeg)) ((xs (x4 + 2).toNatClampNeg)) ((xs (x4 + 3).toNatClampNeg))) (vx_cwSW 5 hts gL_law_L_isNested rfl rfl rfl (by decide +kernel) ⟨Nat.le_of_ble_eq_true rfl, Nat.le_of_ble_eq_true rfl⟩) ⟨fun a U g mk q => ⟨q.1, q.2.1, va_K.moved (u := U) (U := U.calling g mk a) (Vm.Alike.refl U.vm) q.2.2.1, q.2.2.2.1, xE_calling q.2.2.2.2.1, xN_calling q.2.2.2.2.2⟩, fun U hU hW => ⟨rfl, by rw [hU]; exact hI.1, va_K.moved hW.alike hK, hI.2.2.1, xE_narrow (xE_at hE hS hU hW) (fun q h => h.elim), xN_at hNc hW⟩⟩ rfl rfl hl.1 rfl (lv_room (Nat.le_of_ble_eq_true rfl)) dL_law_1817 ⟨by show _ ≤ 3102; omega, by show _ ≤ 118996; omega⟩) hS (fun q _ h => h.1) (fun q h => h.1) (fun r u t H1 locs ht hvm hw hB hz hk1 hS => ?_)
  rw [ht] at hB
  have hI := lwI_x hI hB hk1
  generalize H1 = H at hI hS ⊢
  refine lv_istore (lv' := [(5, .int r), (4, .int x4), (3, .ref ao), (2, .ref (bd 0)), (1, .ref (ad 0)), (0, .ref b)]) hx hb dL_law_1820 hl (by decide) rfl (fun ls hl => ?_)
  refine lv_aload_n hx hb dL_law_1822 rfl (lv_at hl 3 rfl) ?_
  refine lv_aload_n hx hb dL_law_1823 rfl (lv_at hl 5 rfl) ?_
  refine lv_iload hx hb dL_law_1824 (lv_at hl 1 rfl) ?_
  refine lv_iconst (v := 1) hx hb dL_law_1826 (by decide) ?_
  refine lv_iadd hx hb dL_law_1827 ?_
  refine va_sld hx hb hX hbl hbA hS hi1 dL_law_1828 ?_
  refine lv_aload_n hx hb dL_law_1829 rfl (lv_at hl 5 rfl) ?_
  refine lv_iload hx hb dL_law_1830 (lv_at hl 1 rfl) ?_
  refine lv_iconst (v := 2) hx hb dL_law_1832 (by decide) ?_
  refine lv_iadd hx hb dL_law_1833 ?_
  refine va_sld hx hb hX hbl hbA hS hi2 dL_law_1834 ?_
  refine lv_aload_n hx hb dL_law_1835 rfl (lv_at hl 5 rfl) ?_
  refine lv_iload hx hb dL_law_1836 (lv_at hl 1 rfl) ?_
  refine lv_iconst (v := 3) hx hb dL_law_1838 (by decide) ?_
  refine lv_iadd hx hb dL_law_1839 ?_
  refine va_sld hx hb hX hbl hbA hS hi3 dL_law_1840 ?_
  refine va_calli (va_runV (As := [.int (xs (x4 + 1).toNatClampNeg), .int (xs (x4 + 2).toNatClampNeg), .int (xs (x4 + 3).toNatClampNeg)]) (rest := []) ⟨hx, hb, hml, hown, hts⟩ (met_X1_isNested l D cI cJ bd (lwM s ad ao) T ((xs (x4 + 1).toNatClampNeg)) ((xs (x4 + 2).toNatClampNeg)) ((xs (x4 + 3).toNatClampNeg))) (cwV 3 hts gL_law_X1_isNested rfl rfl rfl (by decide +kernel) ⟨Nat.le_of_ble_eq_true rfl, Nat.le_of_ble_eq_true rfl⟩) ⟨fun a U g mk q => ⟨q.1, b1R_calling q.2.1, q.2.2⟩, va_recv hK hI.2.1 (ci := 1) (q0 := 0) rfl rfl, fun U hU hW => ⟨rfl, b1R_at hI.2.1 hK hU hW, hI.2.2.2⟩⟩ rfl rfl hl.1 rfl (lv_room (Nat.le_of_ble_eq_true rfl)) dL_law_1841 ⟨by show _ ≤ 3102; omega, by show _ ≤ 118996; omega⟩) hS (fun q _ h => h.1) (fun q h => h.1) (fun r2 u2 t H1 locs ht hvm hw2 hB hz hk2 hS => ?_)
  obtain ⟨hP1, hD1⟩ := hB
  rw [ht] at hP1
  have hI := lwI_m hI hP1 hD1 hk2
  generalize H1 = H at hI hS ⊢
  obtain ⟨hw2, -⟩ := hw2
  have hg := ag_isNested hR o ((xs (x4 + 1).toNatClampNeg)) ((xs (x4 + 2).toNatClampNeg)) ((xs (x4 + 3).toNatClampNeg))
  rw [hw, hw2] at hg
  obtain ⟨hg1, hR, hg3⟩ := hg
  refine lv_istore (lv' := [(6, .int r2), (5, .int r), (4, .int x4), (3, .ref ao), (2, .ref (bd 0)), (1, .ref (ad 0)), (0, .ref b)]) hx hb dL_law_1844 hl (by decide) rfl (fun ls hl => ?_)
  refine lv_aload_n hx hb dL_law_1846 rfl (lv_at hl 4 rfl) ?_
  refine va_calli (va_runV (As := []) (rest := []) ⟨hx, hb, hml, hown, hts⟩ (met_X1_thrown l D cI cJ bd u2) (cwV 0 hts gL_law_X1_thrown rfl rfl rfl (by decide +kernel) ⟨Nat.le_of_ble_eq_true rfl, Nat.le_of_ble_eq_true rfl⟩) ⟨fun a U g mk q => ⟨q.1, b1R_calling q.2⟩, va_recv hK hI.2.1 (ci := 1) (q0 := 0) rfl rfl, fun U hU hW => ⟨rfl, b1R_at hI.2.1 hK hU hW⟩⟩ rfl rfl hl.1 rfl (lv_room (Nat.le_of_ble_eq_true rfl)) dL_law_1847 ⟨by show _ ≤ 3102; omega, by show _ ≤ 118996; omega⟩) hS (fun q _ h => h.elim) (fun q h => h.elim) (fun r3 u3 t H1 locs ht hvm hw3 hB hz hk2 hS => ?_)
  have hI := lwI_k hI hk2
  generalize H1 = H at hI hS ⊢
  have hr3 : r3 = r := by rw [← hw3]; exact hg1
  refine W.widen (k := k + 6) (n := n + 36) (by omega) (by omega) ?_
  refine lv_iload hx hb dL_law_1850 (lv_at hl 1 rfl) ?_
  refine lv_icmp_eq (tgt := 1857) hx hb dL_law_1852 (by decide) (fun cz => ?_) (fun cz => absurd hr3 cz)
  refine lv_iload hx hb dL_law_1857 (lv_at hl 1 rfl) ?_
  have kk : W p l e room_1 s m #[Value.ref b] below meth c H locs (k + 6) (n + 36) (lw_Z below #[Value.ref b] s) (F0 m 1881 ls []) := by
    refine lv_goto (tgt := 2318) hx hb dL_law_1881 (by decide) ?_
    exact K _ _ _ _ _ hI hR hS _ (lv_sub hl [2, 3, 4, 5, 6] rfl)
  refine lv_if_ne (tgt := 1881) hx hb dL_law_1859 (by decide) (fun cz2 => kk) (fun cz2 => ?_)
  refine lv_aload_n hx hb dL_law_1862 rfl (lv_at hl 3 rfl) ?_
  refine lv_iconst (v := 0) hx hb dL_law_1863 (by decide) ?_
  refine va_lald hx hb hK hI.1 8 1 rfl rfl in01 dL_law_1864 ?_
  refine lv_iload hx hb dL_law_1865 (lv_at hl 0 rfl) ?_
  refine lv_if_eq (tgt := 1874) hx hb dL_law_1867 (by decide) (fun cz4 => ?_) (fun cz4 => ?_)
  · refine lv_lconst (v := 0) hx hb dL_law_1874 rfl ?_
    refine W.lcmp hx hb dL_law_1875 ?_
    refine lv_if_eq (tgt := 1881) hx hb dL_law_1876 (by decide) (fun cz3 => kk) (fun cz3 => absurd ((lg_cmp_eq _ _).mpr (by rw [show u.2 ((0 : Int32).toNatClampNeg) = _ from hg3 cz2, if_pos cz4])) cz3)
  · refine lv_lconst (v := 1) hx hb dL_law_1870 rfl ?_
    refine lv_goto (tgt := 1875) hx hb dL_law_1871 (by decide) ?_
    refine W.lcmp hx hb dL_law_1875 ?_
    refine lv_if_eq (tgt := 1881) hx hb dL_law_1876 (by decide) (fun cz3 => kk) (fun cz3 => absurd ((lg_cmp_eq _ _).mpr (by rw [show u.2 ((0 : Int32).toNatClampNeg) = _ from hg3 cz2, if_neg cz4])) cz3)

set_option maxHeartbeats 4000000 in
set_option maxRecDepth 100000 in
theorem lw_c26 {p : Program} {l : Launch} {e : Env} {s : State} {m : MethodId} {below : List Frame} {meth : Method} {c : Code} {b L : Nat} {xs : Nat → Int32} (hfl : l.stackTraces = false) (hL : L ≤ 2048) (C0 : lw_At p s m meth c b L xs) {D : va_G} {cI cJ : ClassId} {ad : Nat → Nat} {ao : Nat} {bd : Nat → Nat} (hK : va_K D pCl (pTy cI cJ) s) (hE : xE (fun q : Nat => s.heap.size ≤ q) s s.heap) (hNc : xN s) (H : Heap) (locs : List Loc) (S : pS) (T : pT) (o : Nat → Int64) (hI : lwI D cI cJ s ad ao bd S o T H) (hR : rel S T) (hS : va_S (fun q : Nat => s.heap.size ≤ q) s.heap H locs) (i : Nat) (hi : i + 4 ≤ L) (x4 : Int32) (hx4 : x4 = nI i) (k n : Nat) (hk : k + 6 ≤ 3102) (hn : n + 36 ≤ 118996) (ls : Array Slot) (hl : lv_has ls 8 [(4, .int x4), (3, .ref ao), (2, .ref (bd 0)), (1, .ref (ad 0)), (0, .ref b)])
    (K : ∀ (H : Heap) (locs : List Loc) (S : pS) (T : pT) (o : Nat → Int64), lwI D cI cJ s ad ao bd S o T H → rel S T → va_S (fun q : Nat => s.heap.size ≤ q) s.heap H locs → ∀ ls : Array Slot, lv_has ls 8 [(4, .int x4), (3, .ref ao), (2, .ref (bd 0)), (1, .ref (ad 0)), (0, .ref b)] → W p l e room_1 s m #[Value.ref b] below meth c H locs (k + 6) (n + 36) (lw_Z below #[Value.ref b] s) (F0 m 2318 ls [])) : W p l e room_1 s m #[Value.ref b] below meth c H locs k n (lw_Z below #[Value.ref b] s) (F0 m 1884 ls []) := by
  obtain ⟨hx, hb, hr, hml, hown, hts, hX, hbl, hlocks, hgv⟩ := C0
  have hb : c.code = cL_law := hb
  have hown : s.vm.findClass RL = some m.cls := hown
  have hts : ∀ w ∈ wsL_law, w.before #[Value.ref b] s = true := fun w hw => hts w (wsL_law_in w hw)
  have hbA : ¬ (fun q : Nat => s.heap.size ≤ q) b := Nat.not_le.mpr hbl
  obtain ⟨hi0, hi1, hi2, hi3⟩ := lw_n hL hi hx4
  refine lv_aload_n hx hb dL_law_1884 rfl (lv_at hl 3 rfl) ?_
  refine lv_aload_n hx hb dL_law_1885 rfl (lv_at hl 4 rfl) ?_
  refine lv_iload hx hb dL_law_1886 (lv_at hl 0 rfl) ?_
  refine lv_iconst (v := 1) hx hb dL_law_1888 (by decide) ?_
  refine lv_iadd hx hb dL_law_1889 ?_
  refine va_sld hx hb hX hbl hbA hS hi1 dL_law_1890 ?_
  refine lv_aload_n hx hb dL_law_1891 rfl (lv_at hl 1 rfl) ?_
  refine va_calli (vx_runSW (As := [.ref (ad 0), .int (xs (x4 + 1).toNatClampNeg), .ref ao]) (rest := []) ⟨hx, hb, hml, hown, hts⟩ (met_L_rootBits l hfl D cI cJ ad ao (lwX s bd) S o ((xs (x4 + 1).toNatClampNeg))) (vx_cwSW 3 hts gL_law_L_rootBits rfl rfl rfl (by decide +kernel) ⟨Nat.le_of_ble_eq_true rfl, Nat.le_of_ble_eq_true rfl⟩) ⟨fun a U g mk q => ⟨q.1, q.2.1, va_K.moved (u := U) (U := U.calling g mk a) (Vm.Alike.refl U.vm) q.2.2.1, q.2.2.2.1, xE_calling q.2.2.2.2.1, xN_calling q.2.2.2.2.2⟩, fun U hU hW => ⟨rfl, by rw [hU]; exact hI.1, va_K.moved hW.alike hK, hI.2.2.1, xE_narrow (xE_at hE hS hU hW) (fun q h => h.elim), xN_at hNc hW⟩⟩ rfl rfl hl.1 rfl (lv_room (Nat.le_of_ble_eq_true rfl)) dL_law_1892 ⟨by show _ ≤ 3102; omega, by show _ ≤ 118996; omega⟩) hS (fun q _ h => h.1) (fun q h => h.1) (fun r u t H1 locs ht hvm hw hB hz hk1 hS => ?_)
  rw [ht] at hB
  have hI := lwI_x hI hB hk1
  generalize H1 = H at hI hS ⊢
  refine lv_istore (lv' := [(5, .int r), (4, .int x4), (3, .ref ao), (2, .ref (bd 0)), (1, .ref (ad 0)), (0, .ref b)]) hx hb dL_law_1895 hl (by decide) rfl (fun ls hl => ?_)
  refine lv_aload_n hx hb dL_law_1897 rfl (lv_at hl 3 rfl) ?_
  refine lv_aload_n hx hb dL_law_1898 rfl (lv_at hl 5 rfl) ?_
  refine lv_iload hx hb dL_law_1899 (lv_at hl 1 rfl) ?_
  refine lv_iconst (v := 1) hx hb dL_law_1901 (by decide) ?_
  refine lv_iadd hx hb dL_law_1902 ?_
  refine va_sld hx hb hX hbl hbA hS hi1 dL_law_1903 ?_
  refine va_calll (va_runV (As := [.int (xs (x4 + 1).toNatClampNeg)]) (rest := []) ⟨hx, hb, hml, hown, hts⟩ (met_X1_rootBits l D cI cJ bd (lwM s ad ao) T ((xs (x4 + 1).toNatClampNeg))) (cwV 1 hts gL_law_X1_rootBits rfl rfl rfl (by decide +kernel) ⟨Nat.le_of_ble_eq_true rfl, Nat.le_of_ble_eq_true rfl⟩) ⟨fun a U g mk q => ⟨q.1, b1R_calling q.2.1, q.2.2⟩, va_recv hK hI.2.1 (ci := 1) (q0 := 0) rfl rfl, fun U hU hW => ⟨rfl, b1R_at hI.2.1 hK hU hW, hI.2.2.2⟩⟩ rfl rfl hl.1 rfl (lv_room (Nat.le_of_ble_eq_true rfl)) dL_law_1904 ⟨by show _ ≤ 3102; omega, by show _ ≤ 118996; omega⟩) hS (fun q _ h => h.1) (fun q h => h.1) (fun r2 u2 t H1 locs ht hvm hw2 hB hz hk2 hS => ?_)
  obtain ⟨hP1, hD1⟩ := hB
  rw [ht] at hP1
  have hI := lwI_m hI hP1 hD1 hk2
  generalize H1 = H at hI hS ⊢
  have hg := ag_rootBits hR o ((xs (x4 + 1).toNatClampNeg))
  rw [hw, hw2] at hg
  obtain ⟨hg1, hR, hg3⟩ := hg
  refine lv_lstore (lv' := [(6, .long r2), (5, .int r), (4, .int x4), (3, .ref ao), (2, .ref (bd 0)), (1, .ref (ad 0)), (0, .ref b)]) hx hb dL_law_1907 hl (by decide) rfl (fun ls hl => ?_)
  refine lv_aload_n hx hb dL_law_1909 rfl (lv_at hl 4 rfl) ?_
  refine va_calli (va_runV (As := []) (rest := []) ⟨hx, hb, hml, hown, hts⟩ (met_X1_thrown l D cI cJ bd u2) (cwV 0 hts gL_law_X1_thrown rfl rfl rfl (by decide +kernel) ⟨Nat.le_of_ble_eq_true rfl, Nat.le_of_ble_eq_true rfl⟩) ⟨fun a U g mk q => ⟨q.1, b1R_calling q.2⟩, va_recv hK hI.2.1 (ci := 1) (q0 := 0) rfl rfl, fun U hU hW => ⟨rfl, b1R_at hI.2.1 hK hU hW⟩⟩ rfl rfl hl.1 rfl (lv_room (Nat.le_of_ble_eq_true rfl)) dL_law_1910 ⟨by show _ ≤ 3102; omega, by show _ ≤ 118996; omega⟩) hS (fun q _ h => h.elim) (fun q h => h.elim) (fun r3 u3 t H1 locs ht hvm hw3 hB hz hk2 hS => ?_)
  have hI := lwI_k hI hk2
  generalize H1 = H at hI hS ⊢
  have hr3 : r3 = r := by rw [← hw3]; exact hg1
  refine W.widen (k := k + 6) (n := n + 36) (by omega) (by omega) ?_
  refine lv_iload hx hb dL_law_1913 (lv_at hl 1 rfl) ?_
  refine lv_icmp_eq (tgt := 1920) hx hb dL_law_1915 (by decide) (fun cz => ?_) (fun cz => absurd hr3 cz)
  refine lv_iload hx hb dL_law_1920 (lv_at hl 1 rfl) ?_
  have kk : W p l e room_1 s m #[Value.ref b] below meth c H locs (k + 6) (n + 36) (lw_Z below #[Value.ref b] s) (F0 m 1936 ls []) := by
    refine lv_goto (tgt := 2318) hx hb dL_law_1936 (by decide) ?_
    exact K _ _ _ _ _ hI hR hS _ (lv_sub hl [2, 3, 4, 5, 6] rfl)
  refine lv_if_ne (tgt := 1936) hx hb dL_law_1922 (by decide) (fun cz2 => kk) (fun cz2 => ?_)
  refine lv_aload_n hx hb dL_law_1925 rfl (lv_at hl 3 rfl) ?_
  refine lv_iconst (v := 0) hx hb dL_law_1926 (by decide) ?_
  refine va_lald hx hb hK hI.1 8 1 rfl rfl in01 dL_law_1927 ?_
  refine lv_lload hx hb dL_law_1928 (lv_at hl 0 rfl) ?_
  refine W.lcmp hx hb dL_law_1930 ?_
  refine lv_if_eq (tgt := 1936) hx hb dL_law_1931 (by decide) (fun cz3 => kk) (fun cz3 => absurd ((lg_cmp_eq _ _).mpr (hg3 cz2)) cz3)

set_option maxHeartbeats 4000000 in
set_option maxRecDepth 100000 in
theorem lw_c27 {p : Program} {l : Launch} {e : Env} {s : State} {m : MethodId} {below : List Frame} {meth : Method} {c : Code} {b L : Nat} {xs : Nat → Int32} (hfl : l.stackTraces = false) (hL : L ≤ 2048) (C0 : lw_At p s m meth c b L xs) {D : va_G} {cI cJ : ClassId} {ad : Nat → Nat} {ao : Nat} {bd : Nat → Nat} (hK : va_K D pCl (pTy cI cJ) s) (hE : xE (fun q : Nat => s.heap.size ≤ q) s s.heap) (hNc : xN s) (H : Heap) (locs : List Loc) (S : pS) (T : pT) (o : Nat → Int64) (hI : lwI D cI cJ s ad ao bd S o T H) (hR : rel S T) (hS : va_S (fun q : Nat => s.heap.size ≤ q) s.heap H locs) (i : Nat) (hi : i + 4 ≤ L) (x4 : Int32) (hx4 : x4 = nI i) (k n : Nat) (hk : k + 6 ≤ 3102) (hn : n + 36 ≤ 118996) (ls : Array Slot) (hl : lv_has ls 8 [(4, .int x4), (3, .ref ao), (2, .ref (bd 0)), (1, .ref (ad 0)), (0, .ref b)])
    (K : ∀ (H : Heap) (locs : List Loc) (S : pS) (T : pT) (o : Nat → Int64), lwI D cI cJ s ad ao bd S o T H → rel S T → va_S (fun q : Nat => s.heap.size ≤ q) s.heap H locs → ∀ ls : Array Slot, lv_has ls 8 [(4, .int x4), (3, .ref ao), (2, .ref (bd 0)), (1, .ref (ad 0)), (0, .ref b)] → W p l e room_1 s m #[Value.ref b] below meth c H locs (k + 6) (n + 36) (lw_Z below #[Value.ref b] s) (F0 m 2318 ls [])) : W p l e room_1 s m #[Value.ref b] below meth c H locs k n (lw_Z below #[Value.ref b] s) (F0 m 1939 ls []) := by
  obtain ⟨hx, hb, hr, hml, hown, hts, hX, hbl, hlocks, hgv⟩ := C0
  have hb : c.code = cL_law := hb
  have hown : s.vm.findClass RL = some m.cls := hown
  have hts : ∀ w ∈ wsL_law, w.before #[Value.ref b] s = true := fun w hw => hts w (wsL_law_in w hw)
  have hbA : ¬ (fun q : Nat => s.heap.size ≤ q) b := Nat.not_le.mpr hbl
  obtain ⟨hi0, hi1, hi2, hi3⟩ := lw_n hL hi hx4
  refine lv_aload_n hx hb dL_law_1939 rfl (lv_at hl 3 rfl) ?_
  refine lv_aload_n hx hb dL_law_1940 rfl (lv_at hl 4 rfl) ?_
  refine lv_iload hx hb dL_law_1941 (lv_at hl 0 rfl) ?_
  refine lv_iconst (v := 1) hx hb dL_law_1943 (by decide) ?_
  refine lv_iadd hx hb dL_law_1944 ?_
  refine va_sld hx hb hX hbl hbA hS hi1 dL_law_1945 ?_
  refine lv_aload_n hx hb dL_law_1946 rfl (lv_at hl 1 rfl) ?_
  refine va_calli (vx_runSW (As := [.ref (ad 0), .int (xs (x4 + 1).toNatClampNeg), .ref ao]) (rest := []) ⟨hx, hb, hml, hown, hts⟩ (met_L_isRoot l hfl D cI cJ ad ao (lwX s bd) S o ((xs (x4 + 1).toNatClampNeg))) (vx_cwSW 3 hts gL_law_L_isRoot rfl rfl rfl (by decide +kernel) ⟨Nat.le_of_ble_eq_true rfl, Nat.le_of_ble_eq_true rfl⟩) ⟨fun a U g mk q => ⟨q.1, q.2.1, va_K.moved (u := U) (U := U.calling g mk a) (Vm.Alike.refl U.vm) q.2.2.1, q.2.2.2.1, xE_calling q.2.2.2.2.1, xN_calling q.2.2.2.2.2⟩, fun U hU hW => ⟨rfl, by rw [hU]; exact hI.1, va_K.moved hW.alike hK, hI.2.2.1, xE_narrow (xE_at hE hS hU hW) (fun q h => h.elim), xN_at hNc hW⟩⟩ rfl rfl hl.1 rfl (lv_room (Nat.le_of_ble_eq_true rfl)) dL_law_1947 ⟨by show _ ≤ 3102; omega, by show _ ≤ 118996; omega⟩) hS (fun q _ h => h.1) (fun q h => h.1) (fun r u t H1 locs ht hvm hw hB hz hk1 hS => ?_)
  rw [ht] at hB
  have hI := lwI_x hI hB hk1
  generalize H1 = H at hI hS ⊢
  refine lv_istore (lv' := [(5, .int r), (4, .int x4), (3, .ref ao), (2, .ref (bd 0)), (1, .ref (ad 0)), (0, .ref b)]) hx hb dL_law_1950 hl (by decide) rfl (fun ls hl => ?_)
  refine lv_aload_n hx hb dL_law_1952 rfl (lv_at hl 3 rfl) ?_
  refine lv_aload_n hx hb dL_law_1953 rfl (lv_at hl 5 rfl) ?_
  refine lv_iload hx hb dL_law_1954 (lv_at hl 1 rfl) ?_
  refine lv_iconst (v := 1) hx hb dL_law_1956 (by decide) ?_
  refine lv_iadd hx hb dL_law_1957 ?_
  refine va_sld hx hb hX hbl hbA hS hi1 dL_law_1958 ?_
  refine va_calli (va_runV (As := [.int (xs (x4 + 1).toNatClampNeg)]) (rest := []) ⟨hx, hb, hml, hown, hts⟩ (met_X1_isRoot l D cI cJ bd (lwM s ad ao) T ((xs (x4 + 1).toNatClampNeg))) (cwV 1 hts gL_law_X1_isRoot rfl rfl rfl (by decide +kernel) ⟨Nat.le_of_ble_eq_true rfl, Nat.le_of_ble_eq_true rfl⟩) ⟨fun a U g mk q => ⟨q.1, b1R_calling q.2.1, q.2.2⟩, va_recv hK hI.2.1 (ci := 1) (q0 := 0) rfl rfl, fun U hU hW => ⟨rfl, b1R_at hI.2.1 hK hU hW, hI.2.2.2⟩⟩ rfl rfl hl.1 rfl (lv_room (Nat.le_of_ble_eq_true rfl)) dL_law_1959 ⟨by show _ ≤ 3102; omega, by show _ ≤ 118996; omega⟩) hS (fun q _ h => h.1) (fun q h => h.1) (fun r2 u2 t H1 locs ht hvm hw2 hB hz hk2 hS => ?_)
  obtain ⟨hP1, hD1⟩ := hB
  rw [ht] at hP1
  have hI := lwI_m hI hP1 hD1 hk2
  generalize H1 = H at hI hS ⊢
  obtain ⟨hw2, -⟩ := hw2
  have hg := ag_isRoot hR o ((xs (x4 + 1).toNatClampNeg))
  rw [hw, hw2] at hg
  obtain ⟨hg1, hR, hg3⟩ := hg
  refine lv_istore (lv' := [(6, .int r2), (5, .int r), (4, .int x4), (3, .ref ao), (2, .ref (bd 0)), (1, .ref (ad 0)), (0, .ref b)]) hx hb dL_law_1962 hl (by decide) rfl (fun ls hl => ?_)
  refine lv_aload_n hx hb dL_law_1964 rfl (lv_at hl 4 rfl) ?_
  refine va_calli (va_runV (As := []) (rest := []) ⟨hx, hb, hml, hown, hts⟩ (met_X1_thrown l D cI cJ bd u2) (cwV 0 hts gL_law_X1_thrown rfl rfl rfl (by decide +kernel) ⟨Nat.le_of_ble_eq_true rfl, Nat.le_of_ble_eq_true rfl⟩) ⟨fun a U g mk q => ⟨q.1, b1R_calling q.2⟩, va_recv hK hI.2.1 (ci := 1) (q0 := 0) rfl rfl, fun U hU hW => ⟨rfl, b1R_at hI.2.1 hK hU hW⟩⟩ rfl rfl hl.1 rfl (lv_room (Nat.le_of_ble_eq_true rfl)) dL_law_1965 ⟨by show _ ≤ 3102; omega, by show _ ≤ 118996; omega⟩) hS (fun q _ h => h.elim) (fun q h => h.elim) (fun r3 u3 t H1 locs ht hvm hw3 hB hz hk2 hS => ?_)
  have hI := lwI_k hI hk2
  generalize H1 = H at hI hS ⊢
  have hr3 : r3 = r := by rw [← hw3]; exact hg1
  refine W.widen (k := k + 6) (n := n + 36) (by omega) (by omega) ?_
  refine lv_iload hx hb dL_law_1968 (lv_at hl 1 rfl) ?_
  refine lv_icmp_eq (tgt := 1975) hx hb dL_law_1970 (by decide) (fun cz => ?_) (fun cz => absurd hr3 cz)
  refine lv_iload hx hb dL_law_1975 (lv_at hl 1 rfl) ?_
  have kk : W p l e room_1 s m #[Value.ref b] below meth c H locs (k + 6) (n + 36) (lw_Z below #[Value.ref b] s) (F0 m 1999 ls []) := by
    refine lv_goto (tgt := 2318) hx hb dL_law_1999 (by decide) ?_
    exact K _ _ _ _ _ hI hR hS _ (lv_sub hl [2, 3, 4, 5, 6] rfl)
  refine lv_if_ne (tgt := 1999) hx hb dL_law_1977 (by decide) (fun cz2 => kk) (fun cz2 => ?_)
  refine lv_aload_n hx hb dL_law_1980 rfl (lv_at hl 3 rfl) ?_
  refine lv_iconst (v := 0) hx hb dL_law_1981 (by decide) ?_
  refine va_lald hx hb hK hI.1 8 1 rfl rfl in01 dL_law_1982 ?_
  refine lv_iload hx hb dL_law_1983 (lv_at hl 0 rfl) ?_
  refine lv_if_eq (tgt := 1992) hx hb dL_law_1985 (by decide) (fun cz4 => ?_) (fun cz4 => ?_)
  · refine lv_lconst (v := 0) hx hb dL_law_1992 rfl ?_
    refine W.lcmp hx hb dL_law_1993 ?_
    refine lv_if_eq (tgt := 1999) hx hb dL_law_1994 (by decide) (fun cz3 => kk) (fun cz3 => absurd ((lg_cmp_eq _ _).mpr (by rw [show u.2 ((0 : Int32).toNatClampNeg) = _ from hg3 cz2, if_pos cz4])) cz3)
  · refine lv_lconst (v := 1) hx hb dL_law_1988 rfl ?_
    refine lv_goto (tgt := 1993) hx hb dL_law_1989 (by decide) ?_
    refine W.lcmp hx hb dL_law_1993 ?_
    refine lv_if_eq (tgt := 1999) hx hb dL_law_1994 (by decide) (fun cz3 => kk) (fun cz3 => absurd ((lg_cmp_eq _ _).mpr (by rw [show u.2 ((0 : Int32).toNatClampNeg) = _ from hg3 cz2, if_neg cz4])) cz3)

set_option maxHeartbeats 4000000 in
set_option maxRecDepth 100000 in
theorem lw_c28 {p : Program} {l : Launch} {e : Env} {s : State} {m : MethodId} {below : List Frame} {meth : Method} {c : Code} {b L : Nat} {xs : Nat → Int32} (hfl : l.stackTraces = false) (hL : L ≤ 2048) (C0 : lw_At p s m meth c b L xs) {D : va_G} {cI cJ : ClassId} {ad : Nat → Nat} {ao : Nat} {bd : Nat → Nat} (hK : va_K D pCl (pTy cI cJ) s) (hE : xE (fun q : Nat => s.heap.size ≤ q) s s.heap) (hNc : xN s) (H : Heap) (locs : List Loc) (S : pS) (T : pT) (o : Nat → Int64) (hI : lwI D cI cJ s ad ao bd S o T H) (hR : rel S T) (hS : va_S (fun q : Nat => s.heap.size ≤ q) s.heap H locs) (i : Nat) (hi : i + 4 ≤ L) (x4 : Int32) (hx4 : x4 = nI i) (k n : Nat) (hk : k + 6 ≤ 3102) (hn : n + 36 ≤ 118996) (ls : Array Slot) (hl : lv_has ls 8 [(4, .int x4), (3, .ref ao), (2, .ref (bd 0)), (1, .ref (ad 0)), (0, .ref b)])
    (K : ∀ (H : Heap) (locs : List Loc) (S : pS) (T : pT) (o : Nat → Int64), lwI D cI cJ s ad ao bd S o T H → rel S T → va_S (fun q : Nat => s.heap.size ≤ q) s.heap H locs → ∀ ls : Array Slot, lv_has ls 8 [(4, .int x4), (3, .ref ao), (2, .ref (bd 0)), (1, .ref (ad 0)), (0, .ref b)] → W p l e room_1 s m #[Value.ref b] below meth c H locs (k + 6) (n + 36) (lw_Z below #[Value.ref b] s) (F0 m 2318 ls [])) : W p l e room_1 s m #[Value.ref b] below meth c H locs k n (lw_Z below #[Value.ref b] s) (F0 m 2002 ls []) := by
  obtain ⟨hx, hb, hr, hml, hown, hts, hX, hbl, hlocks, hgv⟩ := C0
  have hb : c.code = cL_law := hb
  have hown : s.vm.findClass RL = some m.cls := hown
  have hts : ∀ w ∈ wsL_law, w.before #[Value.ref b] s = true := fun w hw => hts w (wsL_law_in w hw)
  have hbA : ¬ (fun q : Nat => s.heap.size ≤ q) b := Nat.not_le.mpr hbl
  obtain ⟨hi0, hi1, hi2, hi3⟩ := lw_n hL hi hx4
  refine lv_aload_n hx hb dL_law_2002 rfl (lv_at hl 3 rfl) ?_
  refine lv_aload_n hx hb dL_law_2003 rfl (lv_at hl 4 rfl) ?_
  refine lv_iload hx hb dL_law_2004 (lv_at hl 0 rfl) ?_
  refine lv_iconst (v := 1) hx hb dL_law_2006 (by decide) ?_
  refine lv_iadd hx hb dL_law_2007 ?_
  refine va_sld hx hb hX hbl hbA hS hi1 dL_law_2008 ?_
  refine lv_aload_n hx hb dL_law_2009 rfl (lv_at hl 4 rfl) ?_
  refine lv_iload hx hb dL_law_2010 (lv_at hl 0 rfl) ?_
  refine lv_iconst (v := 2) hx hb dL_law_2012 (by decide) ?_
  refine lv_iadd hx hb dL_law_2013 ?_
  refine va_sld hx hb hX hbl hbA hS hi2 dL_law_2014 ?_
  refine lv_aload_n hx hb dL_law_2015 rfl (lv_at hl 1 rfl) ?_
  refine va_calli (vx_runSW (As := [.ref (ad 0), .int (xs (x4 + 1).toNatClampNeg), .int (xs (x4 + 2).toNatClampNeg), .ref ao]) (rest := []) ⟨hx, hb, hml, hown, hts⟩ (met_L_rootAt l hfl D cI cJ ad ao (lwX s bd) S o ((xs (x4 + 1).toNatClampNeg)) ((xs (x4 + 2).toNatClampNeg))) (vx_cwSW 4 hts gL_law_L_rootAt rfl rfl rfl (by decide +kernel) ⟨Nat.le_of_ble_eq_true rfl, Nat.le_of_ble_eq_true rfl⟩) ⟨fun a U g mk q => ⟨q.1, q.2.1, va_K.moved (u := U) (U := U.calling g mk a) (Vm.Alike.refl U.vm) q.2.2.1, q.2.2.2.1, xE_calling q.2.2.2.2.1, xN_calling q.2.2.2.2.2⟩, fun U hU hW => ⟨rfl, by rw [hU]; exact hI.1, va_K.moved hW.alike hK, hI.2.2.1, xE_narrow (xE_at hE hS hU hW) (fun q h => h.elim), xN_at hNc hW⟩⟩ rfl rfl hl.1 rfl (lv_room (Nat.le_of_ble_eq_true rfl)) dL_law_2016 ⟨by show _ ≤ 3102; omega, by show _ ≤ 118996; omega⟩) hS (fun q _ h => h.1) (fun q h => h.1) (fun r u t H1 locs ht hvm hw hB hz hk1 hS => ?_)
  rw [ht] at hB
  have hI := lwI_x hI hB hk1
  generalize H1 = H at hI hS ⊢
  refine lv_istore (lv' := [(5, .int r), (4, .int x4), (3, .ref ao), (2, .ref (bd 0)), (1, .ref (ad 0)), (0, .ref b)]) hx hb dL_law_2019 hl (by decide) rfl (fun ls hl => ?_)
  refine lv_aload_n hx hb dL_law_2021 rfl (lv_at hl 3 rfl) ?_
  refine lv_aload_n hx hb dL_law_2022 rfl (lv_at hl 5 rfl) ?_
  refine lv_iload hx hb dL_law_2023 (lv_at hl 1 rfl) ?_
  refine lv_iconst (v := 1) hx hb dL_law_2025 (by decide) ?_
  refine lv_iadd hx hb dL_law_2026 ?_
  refine va_sld hx hb hX hbl hbA hS hi1 dL_law_2027 ?_
  refine lv_aload_n hx hb dL_law_2028 rfl (lv_at hl 5 rfl) ?_
  refine lv_iload hx hb dL_law_2029 (lv_at hl 1 rfl) ?_
  refine lv_iconst (v := 2) hx hb dL_law_2031 (by decide) ?_
  refine lv_iadd hx hb dL_law_2032 ?_
  refine va_sld hx hb hX hbl hbA hS hi2 dL_law_2033 ?_
  refine va_calll (va_runV (As := [.int (xs (x4 + 1).toNatClampNeg), .int (xs (x4 + 2).toNatClampNeg)]) (rest := []) ⟨hx, hb, hml, hown, hts⟩ (met_X1_rootAt l D cI cJ bd (lwM s ad ao) T ((xs (x4 + 1).toNatClampNeg)) ((xs (x4 + 2).toNatClampNeg))) (cwV 2 hts gL_law_X1_rootAt rfl rfl rfl (by decide +kernel) ⟨Nat.le_of_ble_eq_true rfl, Nat.le_of_ble_eq_true rfl⟩) ⟨fun a U g mk q => ⟨q.1, b1R_calling q.2.1, q.2.2⟩, va_recv hK hI.2.1 (ci := 1) (q0 := 0) rfl rfl, fun U hU hW => ⟨rfl, b1R_at hI.2.1 hK hU hW, hI.2.2.2⟩⟩ rfl rfl hl.1 rfl (lv_room (Nat.le_of_ble_eq_true rfl)) dL_law_2034 ⟨by show _ ≤ 3102; omega, by show _ ≤ 118996; omega⟩) hS (fun q _ h => h.1) (fun q h => h.1) (fun r2 u2 t H1 locs ht hvm hw2 hB hz hk2 hS => ?_)
  obtain ⟨hP1, hD1⟩ := hB
  rw [ht] at hP1
  have hI := lwI_m hI hP1 hD1 hk2
  generalize H1 = H at hI hS ⊢
  have hg := ag_rootAt hR o ((xs (x4 + 1).toNatClampNeg)) ((xs (x4 + 2).toNatClampNeg))
  rw [hw, hw2] at hg
  obtain ⟨hg1, hR, hg3⟩ := hg
  refine lv_lstore (lv' := [(6, .long r2), (5, .int r), (4, .int x4), (3, .ref ao), (2, .ref (bd 0)), (1, .ref (ad 0)), (0, .ref b)]) hx hb dL_law_2037 hl (by decide) rfl (fun ls hl => ?_)
  refine lv_aload_n hx hb dL_law_2039 rfl (lv_at hl 4 rfl) ?_
  refine va_calli (va_runV (As := []) (rest := []) ⟨hx, hb, hml, hown, hts⟩ (met_X1_thrown l D cI cJ bd u2) (cwV 0 hts gL_law_X1_thrown rfl rfl rfl (by decide +kernel) ⟨Nat.le_of_ble_eq_true rfl, Nat.le_of_ble_eq_true rfl⟩) ⟨fun a U g mk q => ⟨q.1, b1R_calling q.2⟩, va_recv hK hI.2.1 (ci := 1) (q0 := 0) rfl rfl, fun U hU hW => ⟨rfl, b1R_at hI.2.1 hK hU hW⟩⟩ rfl rfl hl.1 rfl (lv_room (Nat.le_of_ble_eq_true rfl)) dL_law_2040 ⟨by show _ ≤ 3102; omega, by show _ ≤ 118996; omega⟩) hS (fun q _ h => h.elim) (fun q h => h.elim) (fun r3 u3 t H1 locs ht hvm hw3 hB hz hk2 hS => ?_)
  have hI := lwI_k hI hk2
  generalize H1 = H at hI hS ⊢
  have hr3 : r3 = r := by rw [← hw3]; exact hg1
  refine W.widen (k := k + 6) (n := n + 36) (by omega) (by omega) ?_
  refine lv_iload hx hb dL_law_2043 (lv_at hl 1 rfl) ?_
  refine lv_icmp_eq (tgt := 2050) hx hb dL_law_2045 (by decide) (fun cz => ?_) (fun cz => absurd hr3 cz)
  refine lv_iload hx hb dL_law_2050 (lv_at hl 1 rfl) ?_
  have kk : W p l e room_1 s m #[Value.ref b] below meth c H locs (k + 6) (n + 36) (lw_Z below #[Value.ref b] s) (F0 m 2066 ls []) := by
    refine lv_goto (tgt := 2318) hx hb dL_law_2066 (by decide) ?_
    exact K _ _ _ _ _ hI hR hS _ (lv_sub hl [2, 3, 4, 5, 6] rfl)
  refine lv_if_ne (tgt := 2066) hx hb dL_law_2052 (by decide) (fun cz2 => kk) (fun cz2 => ?_)
  refine lv_aload_n hx hb dL_law_2055 rfl (lv_at hl 3 rfl) ?_
  refine lv_iconst (v := 0) hx hb dL_law_2056 (by decide) ?_
  refine va_lald hx hb hK hI.1 8 1 rfl rfl in01 dL_law_2057 ?_
  refine lv_lload hx hb dL_law_2058 (lv_at hl 0 rfl) ?_
  refine W.lcmp hx hb dL_law_2060 ?_
  refine lv_if_eq (tgt := 2066) hx hb dL_law_2061 (by decide) (fun cz3 => kk) (fun cz3 => absurd ((lg_cmp_eq _ _).mpr (hg3 cz2)) cz3)

set_option maxHeartbeats 4000000 in
set_option maxRecDepth 100000 in
theorem lw_c29 {p : Program} {l : Launch} {e : Env} {s : State} {m : MethodId} {below : List Frame} {meth : Method} {c : Code} {b L : Nat} {xs : Nat → Int32} (hfl : l.stackTraces = false) (hL : L ≤ 2048) (C0 : lw_At p s m meth c b L xs) {D : va_G} {cI cJ : ClassId} {ad : Nat → Nat} {ao : Nat} {bd : Nat → Nat} (hK : va_K D pCl (pTy cI cJ) s) (hE : xE (fun q : Nat => s.heap.size ≤ q) s s.heap) (hNc : xN s) (H : Heap) (locs : List Loc) (S : pS) (T : pT) (o : Nat → Int64) (hI : lwI D cI cJ s ad ao bd S o T H) (hR : rel S T) (hS : va_S (fun q : Nat => s.heap.size ≤ q) s.heap H locs) (i : Nat) (hi : i + 4 ≤ L) (x4 : Int32) (hx4 : x4 = nI i) (k n : Nat) (hk : k + 6 ≤ 3102) (hn : n + 36 ≤ 118996) (ls : Array Slot) (hl : lv_has ls 8 [(4, .int x4), (3, .ref ao), (2, .ref (bd 0)), (1, .ref (ad 0)), (0, .ref b)])
    (K : ∀ (H : Heap) (locs : List Loc) (S : pS) (T : pT) (o : Nat → Int64), lwI D cI cJ s ad ao bd S o T H → rel S T → va_S (fun q : Nat => s.heap.size ≤ q) s.heap H locs → ∀ ls : Array Slot, lv_has ls 8 [(4, .int x4), (3, .ref ao), (2, .ref (bd 0)), (1, .ref (ad 0)), (0, .ref b)] → W p l e room_1 s m #[Value.ref b] below meth c H locs (k + 6) (n + 36) (lw_Z below #[Value.ref b] s) (F0 m 2318 ls [])) : W p l e room_1 s m #[Value.ref b] below meth c H locs k n (lw_Z below #[Value.ref b] s) (F0 m 2069 ls []) := by
  obtain ⟨hx, hb, hr, hml, hown, hts, hX, hbl, hlocks, hgv⟩ := C0
  have hb : c.code = cL_law := hb
  have hown : s.vm.findClass RL = some m.cls := hown
  have hts : ∀ w ∈ wsL_law, w.before #[Value.ref b] s = true := fun w hw => hts w (wsL_law_in w hw)
  have hbA : ¬ (fun q : Nat => s.heap.size ≤ q) b := Nat.not_le.mpr hbl
  obtain ⟨hi0, hi1, hi2, hi3⟩ := lw_n hL hi hx4
  refine lv_aload_n hx hb dL_law_2069 rfl (lv_at hl 3 rfl) ?_
  refine lv_aload_n hx hb dL_law_2070 rfl (lv_at hl 4 rfl) ?_
  refine lv_iload hx hb dL_law_2071 (lv_at hl 0 rfl) ?_
  refine lv_iconst (v := 1) hx hb dL_law_2073 (by decide) ?_
  refine lv_iadd hx hb dL_law_2074 ?_
  refine va_sld hx hb hX hbl hbA hS hi1 dL_law_2075 ?_
  refine lv_aload_n hx hb dL_law_2076 rfl (lv_at hl 1 rfl) ?_
  refine va_calli (vx_runSW (As := [.ref (ad 0), .int (xs (x4 + 1).toNatClampNeg), .ref ao]) (rest := []) ⟨hx, hb, hml, hown, hts⟩ (met_L_backBits l hfl D cI cJ ad ao (lwX s bd) S o ((xs (x4 + 1).toNatClampNeg))) (vx_cwSW 3 hts gL_law_L_backBits rfl rfl rfl (by decide +kernel) ⟨Nat.le_of_ble_eq_true rfl, Nat.le_of_ble_eq_true rfl⟩) ⟨fun a U g mk q => ⟨q.1, q.2.1, va_K.moved (u := U) (U := U.calling g mk a) (Vm.Alike.refl U.vm) q.2.2.1, q.2.2.2.1, xE_calling q.2.2.2.2.1, xN_calling q.2.2.2.2.2⟩, fun U hU hW => ⟨rfl, by rw [hU]; exact hI.1, va_K.moved hW.alike hK, hI.2.2.1, xE_narrow (xE_at hE hS hU hW) (fun q h => h.elim), xN_at hNc hW⟩⟩ rfl rfl hl.1 rfl (lv_room (Nat.le_of_ble_eq_true rfl)) dL_law_2077 ⟨by show _ ≤ 3102; omega, by show _ ≤ 118996; omega⟩) hS (fun q _ h => h.1) (fun q h => h.1) (fun r u t H1 locs ht hvm hw hB hz hk1 hS => ?_)
  rw [ht] at hB
  have hI := lwI_x hI hB hk1
  generalize H1 = H at hI hS ⊢
  refine lv_istore (lv' := [(5, .int r), (4, .int x4), (3, .ref ao), (2, .ref (bd 0)), (1, .ref (ad 0)), (0, .ref b)]) hx hb dL_law_2080 hl (by decide) rfl (fun ls hl => ?_)
  refine lv_aload_n hx hb dL_law_2082 rfl (lv_at hl 3 rfl) ?_
  refine lv_aload_n hx hb dL_law_2083 rfl (lv_at hl 5 rfl) ?_
  refine lv_iload hx hb dL_law_2084 (lv_at hl 1 rfl) ?_
  refine lv_iconst (v := 1) hx hb dL_law_2086 (by decide) ?_
  refine lv_iadd hx hb dL_law_2087 ?_
  refine va_sld hx hb hX hbl hbA hS hi1 dL_law_2088 ?_
  refine va_calll (va_runV (As := [.int (xs (x4 + 1).toNatClampNeg)]) (rest := []) ⟨hx, hb, hml, hown, hts⟩ (met_X1_backBits l D cI cJ bd (lwM s ad ao) T ((xs (x4 + 1).toNatClampNeg))) (cwV 1 hts gL_law_X1_backBits rfl rfl rfl (by decide +kernel) ⟨Nat.le_of_ble_eq_true rfl, Nat.le_of_ble_eq_true rfl⟩) ⟨fun a U g mk q => ⟨q.1, b1R_calling q.2.1, q.2.2⟩, va_recv hK hI.2.1 (ci := 1) (q0 := 0) rfl rfl, fun U hU hW => ⟨rfl, b1R_at hI.2.1 hK hU hW, hI.2.2.2⟩⟩ rfl rfl hl.1 rfl (lv_room (Nat.le_of_ble_eq_true rfl)) dL_law_2089 ⟨by show _ ≤ 3102; omega, by show _ ≤ 118996; omega⟩) hS (fun q _ h => h.1) (fun q h => h.1) (fun r2 u2 t H1 locs ht hvm hw2 hB hz hk2 hS => ?_)
  obtain ⟨hP1, hD1⟩ := hB
  rw [ht] at hP1
  have hI := lwI_m hI hP1 hD1 hk2
  generalize H1 = H at hI hS ⊢
  have hg := ag_backBits hR o ((xs (x4 + 1).toNatClampNeg))
  rw [hw, hw2] at hg
  obtain ⟨hg1, hR, hg3⟩ := hg
  refine lv_lstore (lv' := [(6, .long r2), (5, .int r), (4, .int x4), (3, .ref ao), (2, .ref (bd 0)), (1, .ref (ad 0)), (0, .ref b)]) hx hb dL_law_2092 hl (by decide) rfl (fun ls hl => ?_)
  refine lv_aload_n hx hb dL_law_2094 rfl (lv_at hl 4 rfl) ?_
  refine va_calli (va_runV (As := []) (rest := []) ⟨hx, hb, hml, hown, hts⟩ (met_X1_thrown l D cI cJ bd u2) (cwV 0 hts gL_law_X1_thrown rfl rfl rfl (by decide +kernel) ⟨Nat.le_of_ble_eq_true rfl, Nat.le_of_ble_eq_true rfl⟩) ⟨fun a U g mk q => ⟨q.1, b1R_calling q.2⟩, va_recv hK hI.2.1 (ci := 1) (q0 := 0) rfl rfl, fun U hU hW => ⟨rfl, b1R_at hI.2.1 hK hU hW⟩⟩ rfl rfl hl.1 rfl (lv_room (Nat.le_of_ble_eq_true rfl)) dL_law_2095 ⟨by show _ ≤ 3102; omega, by show _ ≤ 118996; omega⟩) hS (fun q _ h => h.elim) (fun q h => h.elim) (fun r3 u3 t H1 locs ht hvm hw3 hB hz hk2 hS => ?_)
  have hI := lwI_k hI hk2
  generalize H1 = H at hI hS ⊢
  have hr3 : r3 = r := by rw [← hw3]; exact hg1
  refine W.widen (k := k + 6) (n := n + 36) (by omega) (by omega) ?_
  refine lv_iload hx hb dL_law_2098 (lv_at hl 1 rfl) ?_
  refine lv_icmp_eq (tgt := 2105) hx hb dL_law_2100 (by decide) (fun cz => ?_) (fun cz => absurd hr3 cz)
  refine lv_iload hx hb dL_law_2105 (lv_at hl 1 rfl) ?_
  have kk : W p l e room_1 s m #[Value.ref b] below meth c H locs (k + 6) (n + 36) (lw_Z below #[Value.ref b] s) (F0 m 2121 ls []) := by
    refine lv_goto (tgt := 2318) hx hb dL_law_2121 (by decide) ?_
    exact K _ _ _ _ _ hI hR hS _ (lv_sub hl [2, 3, 4, 5, 6] rfl)
  refine lv_if_ne (tgt := 2121) hx hb dL_law_2107 (by decide) (fun cz2 => kk) (fun cz2 => ?_)
  refine lv_aload_n hx hb dL_law_2110 rfl (lv_at hl 3 rfl) ?_
  refine lv_iconst (v := 0) hx hb dL_law_2111 (by decide) ?_
  refine va_lald hx hb hK hI.1 8 1 rfl rfl in01 dL_law_2112 ?_
  refine lv_lload hx hb dL_law_2113 (lv_at hl 0 rfl) ?_
  refine W.lcmp hx hb dL_law_2115 ?_
  refine lv_if_eq (tgt := 2121) hx hb dL_law_2116 (by decide) (fun cz3 => kk) (fun cz3 => absurd ((lg_cmp_eq _ _).mpr (hg3 cz2)) cz3)

set_option maxHeartbeats 4000000 in
set_option maxRecDepth 100000 in
theorem lw_c30 {p : Program} {l : Launch} {e : Env} {s : State} {m : MethodId} {below : List Frame} {meth : Method} {c : Code} {b L : Nat} {xs : Nat → Int32} (hfl : l.stackTraces = false) (hL : L ≤ 2048) (C0 : lw_At p s m meth c b L xs) {D : va_G} {cI cJ : ClassId} {ad : Nat → Nat} {ao : Nat} {bd : Nat → Nat} (hK : va_K D pCl (pTy cI cJ) s) (hE : xE (fun q : Nat => s.heap.size ≤ q) s s.heap) (hNc : xN s) (H : Heap) (locs : List Loc) (S : pS) (T : pT) (o : Nat → Int64) (hI : lwI D cI cJ s ad ao bd S o T H) (hR : rel S T) (hS : va_S (fun q : Nat => s.heap.size ≤ q) s.heap H locs) (i : Nat) (hi : i + 4 ≤ L) (x4 : Int32) (hx4 : x4 = nI i) (k n : Nat) (hk : k + 6 ≤ 3102) (hn : n + 36 ≤ 118996) (ls : Array Slot) (hl : lv_has ls 8 [(4, .int x4), (3, .ref ao), (2, .ref (bd 0)), (1, .ref (ad 0)), (0, .ref b)])
    (K : ∀ (H : Heap) (locs : List Loc) (S : pS) (T : pT) (o : Nat → Int64), lwI D cI cJ s ad ao bd S o T H → rel S T → va_S (fun q : Nat => s.heap.size ≤ q) s.heap H locs → ∀ ls : Array Slot, lv_has ls 8 [(4, .int x4), (3, .ref ao), (2, .ref (bd 0)), (1, .ref (ad 0)), (0, .ref b)] → W p l e room_1 s m #[Value.ref b] below meth c H locs (k + 6) (n + 36) (lw_Z below #[Value.ref b] s) (F0 m 2318 ls [])) : W p l e room_1 s m #[Value.ref b] below meth c H locs k n (lw_Z below #[Value.ref b] s) (F0 m 2124 ls []) := by
  obtain ⟨hx, hb, hr, hml, hown, hts, hX, hbl, hlocks, hgv⟩ := C0
  have hb : c.code = cL_law := hb
  have hown : s.vm.findClass RL = some m.cls := hown
  have hts : ∀ w ∈ wsL_law, w.before #[Value.ref b] s = true := fun w hw => hts w (wsL_law_in w hw)
  have hbA : ¬ (fun q : Nat => s.heap.size ≤ q) b := Nat.not_le.mpr hbl
  obtain ⟨hi0, hi1, hi2, hi3⟩ := lw_n hL hi hx4
  refine lv_aload_n hx hb dL_law_2124 rfl (lv_at hl 3 rfl) ?_
  refine lv_aload_n hx hb dL_law_2125 rfl (lv_at hl 4 rfl) ?_
  refine lv_iload hx hb dL_law_2126 (lv_at hl 0 rfl) ?_
  refine lv_iconst (v := 1) hx hb dL_law_2128 (by decide) ?_
  refine lv_iadd hx hb dL_law_2129 ?_
  refine va_sld hx hb hX hbl hbA hS hi1 dL_law_2130 ?_
  refine lv_aload_n hx hb dL_law_2131 rfl (lv_at hl 1 rfl) ?_
  refine va_calli (vx_runSW (As := [.ref (ad 0), .int (xs (x4 + 1).toNatClampNeg), .ref ao]) (rest := []) ⟨hx, hb, hml, hown, hts⟩ (met_L_isBack l hfl D cI cJ ad ao (lwX s bd) S o ((xs (x4 + 1).toNatClampNeg))) (vx_cwSW 3 hts gL_law_L_isBack rfl rfl rfl (by decide +kernel) ⟨Nat.le_of_ble_eq_true rfl, Nat.le_of_ble_eq_true rfl⟩) ⟨fun a U g mk q => ⟨q.1, q.2.1, va_K.moved (u := U) (U := U.calling g mk a) (Vm.Alike.refl U.vm) q.2.2.1, q.2.2.2.1, xE_calling q.2.2.2.2.1, xN_calling q.2.2.2.2.2⟩, fun U hU hW => ⟨rfl, by rw [hU]; exact hI.1, va_K.moved hW.alike hK, hI.2.2.1, xE_narrow (xE_at hE hS hU hW) (fun q h => h.elim), xN_at hNc hW⟩⟩ rfl rfl hl.1 rfl (lv_room (Nat.le_of_ble_eq_true rfl)) dL_law_2132 ⟨by show _ ≤ 3102; omega, by show _ ≤ 118996; omega⟩) hS (fun q _ h => h.1) (fun q h => h.1) (fun r u t H1 locs ht hvm hw hB hz hk1 hS => ?_)
  rw [ht] at hB
  have hI := lwI_x hI hB hk1
  generalize H1 = H at hI hS ⊢
  refine lv_istore (lv' := [(5, .int r), (4, .int x4), (3, .ref ao), (2, .ref (bd 0)), (1, .ref (ad 0)), (0, .ref b)]) hx hb dL_law_2135 hl (by decide) rfl (fun ls hl => ?_)
  refine lv_aload_n hx hb dL_law_2137 rfl (lv_at hl 3 rfl) ?_
  refine lv_aload_n hx hb dL_law_2138 rfl (lv_at hl 5 rfl) ?_
  refine lv_iload hx hb dL_law_2139 (lv_at hl 1 rfl) ?_
  refine lv_iconst (v := 1) hx hb dL_law_2141 (by decide) ?_
  refine lv_iadd hx hb dL_law_2142 ?_
  refine va_sld hx hb hX hbl hbA hS hi1 dL_law_2143 ?_
  refine va_calli (va_runV (As := [.int (xs (x4 + 1).toNatClampNeg)]) (rest := []) ⟨hx, hb, hml, hown, hts⟩ (met_X1_isBack l D cI cJ bd (lwM s ad ao) T ((xs (x4 + 1).toNatClampNeg))) (cwV 1 hts gL_law_X1_isBack rfl rfl rfl (by decide +kernel) ⟨Nat.le_of_ble_eq_true rfl, Nat.le_of_ble_eq_true rfl⟩) ⟨fun a U g mk q => ⟨q.1, b1R_calling q.2.1, q.2.2⟩, va_recv hK hI.2.1 (ci := 1) (q0 := 0) rfl rfl, fun U hU hW => ⟨rfl, b1R_at hI.2.1 hK hU hW, hI.2.2.2⟩⟩ rfl rfl hl.1 rfl (lv_room (Nat.le_of_ble_eq_true rfl)) dL_law_2144 ⟨by show _ ≤ 3102; omega, by show _ ≤ 118996; omega⟩) hS (fun q _ h => h.1) (fun q h => h.1) (fun r2 u2 t H1 locs ht hvm hw2 hB hz hk2 hS => ?_)
  obtain ⟨hP1, hD1⟩ := hB
  rw [ht] at hP1
  have hI := lwI_m hI hP1 hD1 hk2
  generalize H1 = H at hI hS ⊢
  obtain ⟨hw2, -⟩ := hw2
  have hg := ag_isBack hR o ((xs (x4 + 1).toNatClampNeg))
  rw [hw, hw2] at hg
  obtain ⟨hg1, hR, hg3⟩ := hg
  refine lv_istore (lv' := [(6, .int r2), (5, .int r), (4, .int x4), (3, .ref ao), (2, .ref (bd 0)), (1, .ref (ad 0)), (0, .ref b)]) hx hb dL_law_2147 hl (by decide) rfl (fun ls hl => ?_)
  refine lv_aload_n hx hb dL_law_2149 rfl (lv_at hl 4 rfl) ?_
  refine va_calli (va_runV (As := []) (rest := []) ⟨hx, hb, hml, hown, hts⟩ (met_X1_thrown l D cI cJ bd u2) (cwV 0 hts gL_law_X1_thrown rfl rfl rfl (by decide +kernel) ⟨Nat.le_of_ble_eq_true rfl, Nat.le_of_ble_eq_true rfl⟩) ⟨fun a U g mk q => ⟨q.1, b1R_calling q.2⟩, va_recv hK hI.2.1 (ci := 1) (q0 := 0) rfl rfl, fun U hU hW => ⟨rfl, b1R_at hI.2.1 hK hU hW⟩⟩ rfl rfl hl.1 rfl (lv_room (Nat.le_of_ble_eq_true rfl)) dL_law_2150 ⟨by show _ ≤ 3102; omega, by show _ ≤ 118996; omega⟩) hS (fun q _ h => h.elim) (fun q h => h.elim) (fun r3 u3 t H1 locs ht hvm hw3 hB hz hk2 hS => ?_)
  have hI := lwI_k hI hk2
  generalize H1 = H at hI hS ⊢
  have hr3 : r3 = r := by rw [← hw3]; exact hg1
  refine W.widen (k := k + 6) (n := n + 36) (by omega) (by omega) ?_
  refine lv_iload hx hb dL_law_2153 (lv_at hl 1 rfl) ?_
  refine lv_icmp_eq (tgt := 2160) hx hb dL_law_2155 (by decide) (fun cz => ?_) (fun cz => absurd hr3 cz)
  refine lv_iload hx hb dL_law_2160 (lv_at hl 1 rfl) ?_
  have kk : W p l e room_1 s m #[Value.ref b] below meth c H locs (k + 6) (n + 36) (lw_Z below #[Value.ref b] s) (F0 m 2184 ls []) := by
    refine lv_goto (tgt := 2318) hx hb dL_law_2184 (by decide) ?_
    exact K _ _ _ _ _ hI hR hS _ (lv_sub hl [2, 3, 4, 5, 6] rfl)
  refine lv_if_ne (tgt := 2184) hx hb dL_law_2162 (by decide) (fun cz2 => kk) (fun cz2 => ?_)
  refine lv_aload_n hx hb dL_law_2165 rfl (lv_at hl 3 rfl) ?_
  refine lv_iconst (v := 0) hx hb dL_law_2166 (by decide) ?_
  refine va_lald hx hb hK hI.1 8 1 rfl rfl in01 dL_law_2167 ?_
  refine lv_iload hx hb dL_law_2168 (lv_at hl 0 rfl) ?_
  refine lv_if_eq (tgt := 2177) hx hb dL_law_2170 (by decide) (fun cz4 => ?_) (fun cz4 => ?_)
  · refine lv_lconst (v := 0) hx hb dL_law_2177 rfl ?_
    refine W.lcmp hx hb dL_law_2178 ?_
    refine lv_if_eq (tgt := 2184) hx hb dL_law_2179 (by decide) (fun cz3 => kk) (fun cz3 => absurd ((lg_cmp_eq _ _).mpr (by rw [show u.2 ((0 : Int32).toNatClampNeg) = _ from hg3 cz2, if_pos cz4])) cz3)
  · refine lv_lconst (v := 1) hx hb dL_law_2173 rfl ?_
    refine lv_goto (tgt := 2178) hx hb dL_law_2174 (by decide) ?_
    refine W.lcmp hx hb dL_law_2178 ?_
    refine lv_if_eq (tgt := 2184) hx hb dL_law_2179 (by decide) (fun cz3 => kk) (fun cz3 => absurd ((lg_cmp_eq _ _).mpr (by rw [show u.2 ((0 : Int32).toNatClampNeg) = _ from hg3 cz2, if_neg cz4])) cz3)

set_option maxHeartbeats 4000000 in
set_option maxRecDepth 100000 in
theorem lw_c31 {p : Program} {l : Launch} {e : Env} {s : State} {m : MethodId} {below : List Frame} {meth : Method} {c : Code} {b L : Nat} {xs : Nat → Int32} (hfl : l.stackTraces = false) (hL : L ≤ 2048) (C0 : lw_At p s m meth c b L xs) {D : va_G} {cI cJ : ClassId} {ad : Nat → Nat} {ao : Nat} {bd : Nat → Nat} (hK : va_K D pCl (pTy cI cJ) s) (hE : xE (fun q : Nat => s.heap.size ≤ q) s s.heap) (hNc : xN s) (H : Heap) (locs : List Loc) (S : pS) (T : pT) (o : Nat → Int64) (hI : lwI D cI cJ s ad ao bd S o T H) (hR : rel S T) (hS : va_S (fun q : Nat => s.heap.size ≤ q) s.heap H locs) (i : Nat) (hi : i + 4 ≤ L) (x4 : Int32) (hx4 : x4 = nI i) (k n : Nat) (hk : k + 6 ≤ 3102) (hn : n + 36 ≤ 118996) (ls : Array Slot) (hl : lv_has ls 8 [(4, .int x4), (3, .ref ao), (2, .ref (bd 0)), (1, .ref (ad 0)), (0, .ref b)])
    (K : ∀ (H : Heap) (locs : List Loc) (S : pS) (T : pT) (o : Nat → Int64), lwI D cI cJ s ad ao bd S o T H → rel S T → va_S (fun q : Nat => s.heap.size ≤ q) s.heap H locs → ∀ ls : Array Slot, lv_has ls 8 [(4, .int x4), (3, .ref ao), (2, .ref (bd 0)), (1, .ref (ad 0)), (0, .ref b)] → W p l e room_1 s m #[Value.ref b] below meth c H locs (k + 6) (n + 36) (lw_Z below #[Value.ref b] s) (F0 m 2318 ls [])) : W p l e room_1 s m #[Value.ref b] below meth c H locs k n (lw_Z below #[Value.ref b] s) (F0 m 2187 ls []) := by
  obtain ⟨hx, hb, hr, hml, hown, hts, hX, hbl, hlocks, hgv⟩ := C0
  have hb : c.code = cL_law := hb
  have hown : s.vm.findClass RL = some m.cls := hown
  have hts : ∀ w ∈ wsL_law, w.before #[Value.ref b] s = true := fun w hw => hts w (wsL_law_in w hw)
  have hbA : ¬ (fun q : Nat => s.heap.size ≤ q) b := Nat.not_le.mpr hbl
  obtain ⟨hi0, hi1, hi2, hi3⟩ := lw_n hL hi hx4
  refine lv_aload_n hx hb dL_law_2187 rfl (lv_at hl 3 rfl) ?_
  refine lv_aload_n hx hb dL_law_2188 rfl (lv_at hl 4 rfl) ?_
  refine lv_iload hx hb dL_law_2189 (lv_at hl 0 rfl) ?_
  refine lv_iconst (v := 1) hx hb dL_law_2191 (by decide) ?_
  refine lv_iadd hx hb dL_law_2192 ?_
  refine va_sld hx hb hX hbl hbA hS hi1 dL_law_2193 ?_
  refine lv_aload_n hx hb dL_law_2194 rfl (lv_at hl 1 rfl) ?_
  refine va_calli (vx_runSW (As := [.ref (ad 0), .int (xs (x4 + 1).toNatClampNeg), .ref ao]) (rest := []) ⟨hx, hb, hml, hown, hts⟩ (met_L_squareBits l hfl D cI cJ ad ao (lwX s bd) S o ((xs (x4 + 1).toNatClampNeg))) (vx_cwSW 3 hts gL_law_L_squareBits rfl rfl rfl (by decide +kernel) ⟨Nat.le_of_ble_eq_true rfl, Nat.le_of_ble_eq_true rfl⟩) ⟨fun a U g mk q => ⟨q.1, q.2.1, va_K.moved (u := U) (U := U.calling g mk a) (Vm.Alike.refl U.vm) q.2.2.1, q.2.2.2.1, xE_calling q.2.2.2.2.1, xN_calling q.2.2.2.2.2⟩, fun U hU hW => ⟨rfl, by rw [hU]; exact hI.1, va_K.moved hW.alike hK, hI.2.2.1, xE_narrow (xE_at hE hS hU hW) (fun q h => h.elim), xN_at hNc hW⟩⟩ rfl rfl hl.1 rfl (lv_room (Nat.le_of_ble_eq_true rfl)) dL_law_2195 ⟨by show _ ≤ 3102; omega, by show _ ≤ 118996; omega⟩) hS (fun q _ h => h.1) (fun q h => h.1) (fun r u t H1 locs ht hvm hw hB hz hk1 hS => ?_)
  rw [ht] at hB
  have hI := lwI_x hI hB hk1
  generalize H1 = H at hI hS ⊢
  refine lv_istore (lv' := [(5, .int r), (4, .int x4), (3, .ref ao), (2, .ref (bd 0)), (1, .ref (ad 0)), (0, .ref b)]) hx hb dL_law_2198 hl (by decide) rfl (fun ls hl => ?_)
  refine lv_aload_n hx hb dL_law_2200 rfl (lv_at hl 3 rfl) ?_
  refine lv_aload_n hx hb dL_law_2201 rfl (lv_at hl 5 rfl) ?_
  refine lv_iload hx hb dL_law_2202 (lv_at hl 1 rfl) ?_
  refine lv_iconst (v := 1) hx hb dL_law_2204 (by decide) ?_
  refine lv_iadd hx hb dL_law_2205 ?_
  refine va_sld hx hb hX hbl hbA hS hi1 dL_law_2206 ?_
  refine va_calll (va_runV (As := [.int (xs (x4 + 1).toNatClampNeg)]) (rest := []) ⟨hx, hb, hml, hown, hts⟩ (met_X1_squareBits l D cI cJ bd (lwM s ad ao) T ((xs (x4 + 1).toNatClampNeg))) (cwV 1 hts gL_law_X1_squareBits rfl rfl rfl (by decide +kernel) ⟨Nat.le_of_ble_eq_true rfl, Nat.le_of_ble_eq_true rfl⟩) ⟨fun a U g mk q => ⟨q.1, b1R_calling q.2.1, q.2.2⟩, va_recv hK hI.2.1 (ci := 1) (q0 := 0) rfl rfl, fun U hU hW => ⟨rfl, b1R_at hI.2.1 hK hU hW, hI.2.2.2⟩⟩ rfl rfl hl.1 rfl (lv_room (Nat.le_of_ble_eq_true rfl)) dL_law_2207 ⟨by show _ ≤ 3102; omega, by show _ ≤ 118996; omega⟩) hS (fun q _ h => h.1) (fun q h => h.1) (fun r2 u2 t H1 locs ht hvm hw2 hB hz hk2 hS => ?_)
  obtain ⟨hP1, hD1⟩ := hB
  rw [ht] at hP1
  have hI := lwI_m hI hP1 hD1 hk2
  generalize H1 = H at hI hS ⊢
  have hg := ag_squareBits hR o ((xs (x4 + 1).toNatClampNeg))
  rw [hw, hw2] at hg
  obtain ⟨hg1, hR, hg3⟩ := hg
  refine lv_lstore (lv' := [(6, .long r2), (5, .int r), (4, .int x4), (3, .ref ao), (2, .ref (bd 0)), (1, .ref (ad 0)), (0, .ref b)]) hx hb dL_law_2210 hl (by decide) rfl (fun ls hl => ?_)
  refine lv_aload_n hx hb dL_law_2212 rfl (lv_at hl 4 rfl) ?_
  refine va_calli (va_runV (As := []) (rest := []) ⟨hx, hb, hml, hown, hts⟩ (met_X1_thrown l D cI cJ bd u2) (cwV 0 hts gL_law_X1_thrown rfl rfl rfl (by decide +kernel) ⟨Nat.le_of_ble_eq_true rfl, Nat.le_of_ble_eq_true rfl⟩) ⟨fun a U g mk q => ⟨q.1, b1R_calling q.2⟩, va_recv hK hI.2.1 (ci := 1) (q0 := 0) rfl rfl, fun U hU hW => ⟨rfl, b1R_at hI.2.1 hK hU hW⟩⟩ rfl rfl hl.1 rfl (lv_room (Nat.le_of_ble_eq_true rfl)) dL_law_2213 ⟨by show _ ≤ 3102; omega, by show _ ≤ 118996; omega⟩) hS (fun q _ h => h.elim) (fun q h => h.elim) (fun r3 u3 t H1 locs ht hvm hw3 hB hz hk2 hS => ?_)
  have hI := lwI_k hI hk2
  generalize H1 = H at hI hS ⊢
  have hr3 : r3 = r := by rw [← hw3]; exact hg1
  refine W.widen (k := k + 6) (n := n + 36) (by omega) (by omega) ?_
  refine lv_iload hx hb dL_law_2216 (lv_at hl 1 rfl) ?_
  refine lv_icmp_eq (tgt := 2223) hx hb dL_law_2218 (by decide) (fun cz => ?_) (fun cz => absurd hr3 cz)
  refine lv_iload hx hb dL_law_2223 (lv_at hl 1 rfl) ?_
  have kk : W p l e room_1 s m #[Value.ref b] below meth c H locs (k + 6) (n + 36) (lw_Z below #[Value.ref b] s) (F0 m 2239 ls []) := by
    refine lv_goto (tgt := 2318) hx hb dL_law_2239 (by decide) ?_
    exact K _ _ _ _ _ hI hR hS _ (lv_sub hl [2, 3, 4, 5, 6] rfl)
  refine lv_if_ne (tgt := 2239) hx hb dL_law_2225 (by decide) (fun cz2 => kk) (fun cz2 => ?_)
  refine lv_aload_n hx hb dL_law_2228 rfl (lv_at hl 3 rfl) ?_
  refine lv_iconst (v := 0) hx hb dL_law_2229 (by decide) ?_
  refine va_lald hx hb hK hI.1 8 1 rfl rfl in01 dL_law_2230 ?_
  refine lv_lload hx hb dL_law_2231 (lv_at hl 0 rfl) ?_
  refine W.lcmp hx hb dL_law_2233 ?_
  refine lv_if_eq (tgt := 2239) hx hb dL_law_2234 (by decide) (fun cz3 => kk) (fun cz3 => absurd ((lg_cmp_eq _ _).mpr (hg3 cz2)) cz3)

set_option maxHeartbeats 4000000 in
set_option maxRecDepth 100000 in
theorem lw_c32 {p : Program} {l : Launch} {e : Env} {s : State} {m : MethodId} {below : List Frame} {meth : Method} {c : Code} {b L : Nat} {xs : Nat → Int32} (hfl : l.stackTraces = false) (hL : L ≤ 2048) (C0 : lw_At p s m meth c b L xs) {D : va_G} {cI cJ : ClassId} {ad : Nat → Nat} {ao : Nat} {bd : Nat → Nat} (hK : va_K D pCl (pTy cI cJ) s) (hE : xE (fun q : Nat => s.heap.size ≤ q) s s.heap) (hNc : xN s) (H : Heap) (locs : List Loc) (S : pS) (T : pT) (o : Nat → Int64) (hI : lwI D cI cJ s ad ao bd S o T H) (hR : rel S T) (hS : va_S (fun q : Nat => s.heap.size ≤ q) s.heap H locs) (i : Nat) (hi : i + 4 ≤ L) (x4 : Int32) (hx4 : x4 = nI i) (k n : Nat) (hk : k + 6 ≤ 3102) (hn : n + 36 ≤ 118996) (ls : Array Slot) (hl : lv_has ls 8 [(4, .int x4), (3, .ref ao), (2, .ref (bd 0)), (1, .ref (ad 0)), (0, .ref b)])
    (K : ∀ (H : Heap) (locs : List Loc) (S : pS) (T : pT) (o : Nat → Int64), lwI D cI cJ s ad ao bd S o T H → rel S T → va_S (fun q : Nat => s.heap.size ≤ q) s.heap H locs → ∀ ls : Array Slot, lv_has ls 8 [(4, .int x4), (3, .ref ao), (2, .ref (bd 0)), (1, .ref (ad 0)), (0, .ref b)] → W p l e room_1 s m #[Value.ref b] below meth c H locs (k + 6) (n + 36) (lw_Z below #[Value.ref b] s) (F0 m 2318 ls [])) : W p l e room_1 s m #[Value.ref b] below meth c H locs k n (lw_Z below #[Value.ref b] s) (F0 m 2242 ls []) := by
  obtain ⟨hx, hb, hr, hml, hown, hts, hX, hbl, hlocks, hgv⟩ := C0
  have hb : c.code = cL_law := hb
  have hown : s.vm.findClass RL = some m.cls := hown
  have hts : ∀ w ∈ wsL_law, w.before #[Value.ref b] s = true := fun w hw => hts w (wsL_law_in w hw)
  have hbA : ¬ (fun q : Nat => s.heap.size ≤ q) b := Nat.not_le.mpr hbl
  obtain ⟨hi0, hi1, hi2, hi3⟩ := lw_n hL hi hx4
  refine lv_aload_n hx hb dL_law_2242 rfl (lv_at hl 3 rfl) ?_
  refine lv_aload_n hx hb dL_law_2243 rfl (lv_at hl 4 rfl) ?_
  refine lv_iload hx hb dL_law_2244 (lv_at hl 0 rfl) ?_
  refine lv_iconst (v := 1) hx hb dL_law_2246 (by decide) ?_
  refine lv_iadd hx hb dL_law_2247 ?_
  refine va_sld hx hb hX hbl hbA hS hi1 dL_law_2248 ?_
  refine lv_aload_n hx hb dL_law_2249 rfl (lv_at hl 1 rfl) ?_
  refine va_calli (vx_runSW (As := [.ref (ad 0), .int (xs (x4 + 1).toNatClampNeg), .ref ao]) (rest := []) ⟨hx, hb, hml, hown, hts⟩ (met_L_isTimes l hfl D cI cJ ad ao (lwX s bd) S o ((xs (x4 + 1).toNatClampNeg))) (vx_cwSW 3 hts gL_law_L_isTimes rfl rfl rfl (by decide +kernel) ⟨Nat.le_of_ble_eq_true rfl, Nat.le_of_ble_eq_true rfl⟩) ⟨fun a U g mk q => ⟨q.1, q.2.1, va_K.moved (u := U) (U := U.calling g mk a) (Vm.Alike.refl U.vm) q.2.2.1, q.2.2.2.1, xE_calling q.2.2.2.2.1, xN_calling q.2.2.2.2.2⟩, fun U hU hW => ⟨rfl, by rw [hU]; exact hI.1, va_K.moved hW.alike hK, hI.2.2.1, xE_narrow (xE_at hE hS hU hW) (fun q h => h.elim), xN_at hNc hW⟩⟩ rfl rfl hl.1 rfl (lv_room (Nat.le_of_ble_eq_true rfl)) dL_law_2250 ⟨by show _ ≤ 3102; omega, by show _ ≤ 118996; omega⟩) hS (fun q _ h => h.1) (fun q h => h.1) (fun r u t H1 locs ht hvm hw hB hz hk1 hS => ?_)
  rw [ht] at hB
  have hI := lwI_x hI hB hk1
  generalize H1 = H at hI hS ⊢
  refine lv_istore (lv' := [(5, .int r), (4, .int x4), (3, .ref ao), (2, .ref (bd 0)), (1, .ref (ad 0)), (0, .ref b)]) hx hb dL_law_2253 hl (by decide) rfl (fun ls hl => ?_)
  refine lv_aload_n hx hb dL_law_2255 rfl (lv_at hl 3 rfl) ?_
  refine lv_aload_n hx hb dL_law_2256 rfl (lv_at hl 5 rfl) ?_
  refine lv_iload hx hb dL_law_2257 (lv_at hl 1 rfl) ?_
  refine lv_iconst (v := 1) hx hb dL_law_2259 (by decide) ?_
  refine lv_iadd hx hb dL_law_2260 ?_
  refine va_sld hx hb hX hbl hbA hS hi1 dL_law_2261 ?_
  refine va_calli (va_runV (As := [.int (xs (x4 + 1).toNatClampNeg)]) (rest := []) ⟨hx, hb, hml, hown, hts⟩ (met_X1_isTimes l D cI cJ bd (lwM s ad ao) T ((xs (x4 + 1).toNatClampNeg))) (cwV 1 hts gL_law_X1_isTimes rfl rfl rfl (by decide +kernel) ⟨Nat.le_of_ble_eq_true rfl, Nat.le_of_ble_eq_true rfl⟩) ⟨fun a U g mk q => ⟨q.1, b1R_calling q.2.1, q.2.2⟩, va_recv hK hI.2.1 (ci := 1) (q0 := 0) rfl rfl, fun U hU hW => ⟨rfl, b1R_at hI.2.1 hK hU hW, hI.2.2.2⟩⟩ rfl rfl hl.1 rfl (lv_room (Nat.le_of_ble_eq_true rfl)) dL_law_2262 ⟨by show _ ≤ 3102; omega, by show _ ≤ 118996; omega⟩) hS (fun q _ h => h.1) (fun q h => h.1) (fun r2 u2 t H1 locs ht hvm hw2 hB hz hk2 hS => ?_)
  obtain ⟨hP1, hD1⟩ := hB
  rw [ht] at hP1
  have hI := lwI_m hI hP1 hD1 hk2
  generalize H1 = H at hI hS ⊢
  obtain ⟨hw2, -⟩ := hw2
  have hg := ag_isTimes hR o ((xs (x4 + 1).toNatClampNeg))
  rw [hw, hw2] at hg
  obtain ⟨hg1, hR, hg3⟩ := hg
  refine lv_istore (lv' := [(6, .int r2), (5, .int r), (4, .int x4), (3, .ref ao), (2, .ref (bd 0)), (1, .ref (ad 0)), (0, .ref b)]) hx hb dL_law_2265 hl (by decide) rfl (fun ls hl => ?_)
  refine lv_aload_n hx hb dL_law_2267 rfl (lv_at hl 4 rfl) ?_
  refine va_calli (va_runV (As := []) (rest := []) ⟨hx, hb, hml, hown, hts⟩ (met_X1_thrown l D cI cJ bd u2) (cwV 0 hts gL_law_X1_thrown rfl rfl rfl (by decide +kernel) ⟨Nat.le_of_ble_eq_true rfl, Nat.le_of_ble_eq_true rfl⟩) ⟨fun a U g mk q => ⟨q.1, b1R_calling q.2⟩, va_recv hK hI.2.1 (ci := 1) (q0 := 0) rfl rfl, fun U hU hW => ⟨rfl, b1R_at hI.2.1 hK hU hW⟩⟩ rfl rfl hl.1 rfl (lv_room (Nat.le_of_ble_eq_true rfl)) dL_law_2268 ⟨by show _ ≤ 3102; omega, by show _ ≤ 118996; omega⟩) hS (fun q _ h => h.elim) (fun q h => h.elim) (fun r3 u3 t H1 locs ht hvm hw3 hB hz hk2 hS => ?_)
  have hI := lwI_k hI hk2
  generalize H1 = H at hI hS ⊢
  have hr3 : r3 = r := by rw [← hw3]; exact hg1
  refine W.widen (k := k + 6) (n := n + 36) (by omega) (by omega) ?_
  refine lv_iload hx hb dL_law_2271 (lv_at hl 1 rfl) ?_
  refine lv_icmp_eq (tgt := 2278) hx hb dL_law_2273 (by decide) (fun cz => ?_) (fun cz => absurd hr3 cz)
  refine lv_iload hx hb dL_law_2278 (lv_at hl 1 rfl) ?_
  have kk : W p l e room_1 s m #[Value.ref b] below meth c H locs (k + 6) (n + 36) (lw_Z below #[Value.ref b] s) (F0 m 2302 ls []) := by
    refine lv_goto (tgt := 2318) hx hb dL_law_2302 (by decide) ?_
    exact K _ _ _ _ _ hI hR hS _ (lv_sub hl [2, 3, 4, 5, 6] rfl)
  refine lv_if_ne (tgt := 2302) hx hb dL_law_2280 (by decide) (fun cz2 => kk) (fun cz2 => ?_)
  refine lv_aload_n hx hb dL_law_2283 rfl (lv_at hl 3 rfl) ?_
  refine lv_iconst (v := 0) hx hb dL_law_2284 (by decide) ?_
  refine va_lald hx hb hK hI.1 8 1 rfl rfl in01 dL_law_2285 ?_
  refine lv_iload hx hb dL_law_2286 (lv_at hl 0 rfl) ?_
  refine lv_if_eq (tgt := 2295) hx hb dL_law_2288 (by decide) (fun cz4 => ?_) (fun cz4 => ?_)
  · refine lv_lconst (v := 0) hx hb dL_law_2295 rfl ?_
    refine W.lcmp hx hb dL_law_2296 ?_
    refine lv_if_eq (tgt := 2302) hx hb dL_law_2297 (by decide) (fun cz3 => kk) (fun cz3 => absurd ((lg_cmp_eq _ _).mpr (by rw [show u.2 ((0 : Int32).toNatClampNeg) = _ from hg3 cz2, if_pos cz4])) cz3)
  · refine lv_lconst (v := 1) hx hb dL_law_2291 rfl ?_
    refine lv_goto (tgt := 2296) hx hb dL_law_2292 (by decide) ?_
    refine W.lcmp hx hb dL_law_2296 ?_
    refine lv_if_eq (tgt := 2302) hx hb dL_law_2297 (by decide) (fun cz3 => kk) (fun cz3 => absurd ((lg_cmp_eq _ _).mpr (by rw [show u.2 ((0 : Int32).toNatClampNeg) = _ from hg3 cz2, if_neg cz4])) cz3)

set_option maxHeartbeats 4000000 in
set_option maxRecDepth 100000 in
theorem lw_c33 {p : Program} {l : Launch} {e : Env} {s : State} {m : MethodId} {below : List Frame} {meth : Method} {c : Code} {b L : Nat} {xs : Nat → Int32} (hfl : l.stackTraces = false) (hL : L ≤ 2048) (C0 : lw_At p s m meth c b L xs) {D : va_G} {cI cJ : ClassId} {ad : Nat → Nat} {ao : Nat} {bd : Nat → Nat} (hK : va_K D pCl (pTy cI cJ) s) (hE : xE (fun q : Nat => s.heap.size ≤ q) s s.heap) (hNc : xN s) (H : Heap) (locs : List Loc) (S : pS) (T : pT) (o : Nat → Int64) (hI : lwI D cI cJ s ad ao bd S o T H) (hR : rel S T) (hS : va_S (fun q : Nat => s.heap.size ≤ q) s.heap H locs) (i : Nat) (hi : i + 4 ≤ L) (x4 : Int32) (hx4 : x4 = nI i) (k n : Nat) (hk : k + 6 ≤ 3102) (hn : n + 36 ≤ 118996) (ls : Array Slot) (hl : lv_has ls 8 [(4, .int x4), (3, .ref ao), (2, .ref (bd 0)), (1, .ref (ad 0)), (0, .ref b)])
    (K : ∀ (H : Heap) (locs : List Loc) (S : pS) (T : pT) (o : Nat → Int64), lwI D cI cJ s ad ao bd S o T H → rel S T → va_S (fun q : Nat => s.heap.size ≤ q) s.heap H locs → ∀ ls : Array Slot, lv_has ls 8 [(4, .int x4), (3, .ref ao), (2, .ref (bd 0)), (1, .ref (ad 0)), (0, .ref b)] → W p l e room_1 s m #[Value.ref b] below meth c H locs (k + 6) (n + 36) (lw_Z below #[Value.ref b] s) (F0 m 2318 ls [])) : W p l e room_1 s m #[Value.ref b] below meth c H locs k n (lw_Z below #[Value.ref b] s) (F0 m 2305 ls []) := by
  obtain ⟨hx, hb, hr, hml, hown, hts, hX, hbl, hlocks, hgv⟩ := C0
  have hb : c.code = cL_law := hb
  have hown : s.vm.findClass RL = some m.cls := hown
  have hts : ∀ w ∈ wsL_law, w.before #[Value.ref b] s = true := fun w hw => hts w (wsL_law_in w hw)
  have hbA : ¬ (fun q : Nat => s.heap.size ≤ q) b := Nat.not_le.mpr hbl
  obtain ⟨hi0, hi1, hi2, hi3⟩ := lw_n hL hi hx4
  refine lv_aload_n hx hb dL_law_2305 rfl (lv_at hl 3 rfl) ?_
  refine va_calli (va_runV (As := []) (rest := []) ⟨hx, hb, hml, hown, hts⟩ (met_X0_isSound l D cI cJ ad S (rel_sh hR)) (cwV 0 hts gL_law_X0_isSound rfl rfl rfl (by decide +kernel) ⟨Nat.le_of_ble_eq_true rfl, Nat.le_of_ble_eq_true rfl⟩) ⟨fun a U g mk q => ⟨q.1, b0R_calling q.2⟩, va_recv hK (hI.1.sub (ws' := pmW cI cJ ad S) [0, 1, 2, 3, 4, 5, 6, 7] rfl) (ci := 0) (q0 := 0) rfl rfl, fun U hU hW => ⟨rfl, b0R_at (hI.1.sub (ws' := pmW cI cJ ad S) [0, 1, 2, 3, 4, 5, 6, 7] rfl) hK hU hW⟩⟩ rfl rfl hl.1 rfl (lv_room (Nat.le_of_ble_eq_true rfl)) dL_law_2306 ⟨by show _ ≤ 3102; omega, by show _ ≤ 118996; omega⟩) hS (fun q _ h => h.elim) (fun q h => h.elim) (fun r u t H1 locs ht hvm hw hB hz hk2 hS => ?_)
  have hI := lwI_k hI hk2
  generalize H1 = H at hI hS ⊢
  refine lv_aload_n hx hb dL_law_2309 rfl (lv_at hl 2 rfl) ?_
  refine va_calli (va_runV (As := []) (rest := [.int r]) ⟨hx, hb, hml, hown, hts⟩ (met_X1_isSound l D cI cJ bd (lwM s ad ao) T) (cwV 0 hts gL_law_X1_isSound rfl rfl rfl (by decide +kernel) ⟨Nat.le_of_ble_eq_true rfl, Nat.le_of_ble_eq_true rfl⟩) ⟨fun a U g mk q => ⟨q.1, b1R_calling q.2.1, q.2.2⟩, va_recv hK hI.2.1 (ci := 1) (q0 := 0) rfl rfl, fun U hU hW => ⟨rfl, b1R_at hI.2.1 hK hU hW, hI.2.2.2⟩⟩ rfl rfl hl.1 rfl (lv_room (Nat.le_of_ble_eq_true rfl)) dL_law_2310 ⟨by show _ ≤ 3102; omega, by show _ ≤ 118996; omega⟩) hS (fun q _ h => h.1) (fun q h => h.1) (fun r2 u2 t H1 locs ht hvm hw2 hB hz hk2 hS => ?_)
  obtain ⟨hP1, hD1⟩ := hB
  rw [ht] at hP1
  have hI := lwI_m hI hP1 hD1 hk2
  generalize H1 = H at hI hS ⊢
  have hg : r = r2 ∧ rel S u2 := by
    obtain ⟨hw2, -⟩ := hw2
    cases hw2
    exact ⟨by rw [← hw.1]; exact ag_isSound hR, hR⟩
  refine lv_icmp_eq (tgt := 2318) hx hb dL_law_2313 (by decide) (fun cz => ?_) (fun cz => absurd hg.1 cz)
  refine W.widen (k := k + 6) (n := n + 36) (by omega) (by omega) ?_
  exact K _ _ _ _ _ hI hg.2 hS _ hl

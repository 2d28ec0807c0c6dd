set_option maxHeartbeats 4000000 in
set_option maxRecDepth 100000 in
theorem lw_c12 {p : Program} {l : Launch} {e : Env} {s : State} {m : MethodId} {below : List Frame} {meth : Method} {c : Code} {b L : Nat} {xs : Nat → Int32} (hfl : l.stackTraces = false) (hL : L ≤ 2048) (C0 : lw_At p s m meth c b L xs) {D : va_G} {cI cJ : ClassId} {ad : Nat → Nat} {ao : Nat} {bd : Nat → Nat} (hK : va_K D pCl (pTy cI cJ) s) (hE : xE (fun q : Nat => s.heap.size ≤ q) s s.heap) (hNc : xN s) (H : Heap) (locs : List Loc) (S : pS) (T : pT) (o : Nat → Int64) (hI : lwI D cI cJ s ad ao bd S o T H) (hR : rel S T) (hS : va_S (fun q : Nat => s.heap.size ≤ q) s.heap H locs) (i : Nat) (hi : i + 4 ≤ L) (x4 : Int32) (hx4 : x4 = nI i) (k n : Nat) (hk : k + 6 ≤ 3102) (hn : n + 36 ≤ 118996) (ls : Array Slot) (hl : lv_has ls 8 [(4, .int x4), (3, .ref ao), (2, .ref (bd 0)), (1, .ref (ad 0)), (0, .ref b)])
    (K : ∀ (H : Heap) (locs : List Loc) (S : pS) (T : pT) (o : Nat → Int64), lwI D cI cJ s ad ao bd S o T H → rel S T → va_S (fun q : Nat => s.heap.size ≤ q) s.heap H locs → ∀ ls : Array Slot, lv_has ls 8 [(4, .int x4), (3, .ref ao), (2, .ref (bd 0)), (1, .ref (ad 0)), (0, .ref b)] → W p l e room_1 s m #[Value.ref b] below meth c H locs (k + 6) (n + 36) (lw_Z below #[Value.ref b] s) (F0 m 2318 ls [])) : W p l e room_1 s m #[Value.ref b] below meth c H locs k n (lw_Z below #[Value.ref b] s) (F0 m 894 ls []) := by
  obtain ⟨hx, hb, hr, hml, hown, hts, hX, hbl, hlocks, hgv⟩ := C0
  have hb : c.code = cL_law := hb
  have hown : s.vm.findClass RL = some m.cls := hown
  have hts : ∀ w ∈ wsL_law, w.before #[Value.ref b] s = true := fun w hw => hts w (wsL_law_in w hw)
  have hbA : ¬ (fun q : Nat => s.heap.size ≤ q) b := Nat.not_le.mpr hbl
  obtain ⟨hi0, hi1, hi2, hi3⟩ := lw_n hL hi hx4
  refine lv_aload_n hx hb dL_law_894 rfl (lv_at hl 3 rfl) ?_
  refine lv_aload_n hx hb dL_law_895 rfl (lv_at hl 4 rfl) ?_
  refine lv_iload hx hb dL_law_896 (lv_at hl 0 rfl) ?_
  refine lv_iconst (v := 1) hx hb dL_law_898 (by decide) ?_
  refine lv_iadd hx hb dL_law_899 ?_
  refine va_sld hx hb hX hbl hbA hS hi1 dL_law_900 ?_
  refine lv_aload_n hx hb dL_law_901 rfl (lv_at hl 1 rfl) ?_
  refine va_calli (vx_runSW (As := [.ref (ad 0), .int (xs (x4 + 1).toNatClampNeg), .ref ao]) (rest := []) ⟨hx, hb, hml, hown, hts⟩ (met_L_whole l hfl D cI cJ ad ao (lwX s bd) S o ((xs (x4 + 1).toNatClampNeg))) (vx_cwSW 3 hts gL_law_L_whole rfl rfl rfl (by decide +kernel) ⟨Nat.le_of_ble_eq_true rfl, Nat.le_of_ble_eq_true rfl⟩) ⟨fun a U g mk q => ⟨q.1, q.2.1, va_K.moved (u := U) (U := U.calling g mk a) (Vm.Alike.refl U.vm) q.2.2.1, q.2.2.2.1, xE_calling q.2.2.2.2.1, xN_calling q.2.2.2.2.2⟩, fun U hU hW => ⟨rfl, by rw [hU]; exact hI.1, va_K.moved hW.alike hK, hI.2.2.1, xE_narrow (xE_at hE hS hU hW) (fun q h => h.elim), xN_at hNc hW⟩⟩ rfl rfl hl.1 rfl (lv_room (Nat.le_of_ble_eq_true rfl)) dL_law_902 ⟨by show _ ≤ 3102; omega, by show _ ≤ 118996; omega⟩) hS (fun q _ h => h.1) (fun q h => h.1) (fun r u t H1 locs ht hvm hw hB hz hk1 hS => ?_)
  rw [ht] at hB
  have hI := lwI_x hI hB hk1
  generalize H1 = H at hI hS ⊢
  refine lv_istore (lv' := [(5, .int r), (4, .int x4), (3, .ref ao), (2, .ref (bd 0)), (1, .ref (ad 0)), (0, .ref b)]) hx hb dL_law_905 hl (by decide) rfl (fun ls hl => ?_)
  refine lv_aload_n hx hb dL_law_907 rfl (lv_at hl 3 rfl) ?_
  refine lv_aload_n hx hb dL_law_908 rfl (lv_at hl 5 rfl) ?_
  refine lv_iload hx hb dL_law_909 (lv_at hl 1 rfl) ?_
  refine lv_iconst (v := 1) hx hb dL_law_911 (by decide) ?_
  refine lv_iadd hx hb dL_law_912 ?_
  refine va_sld hx hb hX hbl hbA hS hi1 dL_law_913 ?_
  refine va_calll (va_runV (As := [.int (xs (x4 + 1).toNatClampNeg)]) (rest := []) ⟨hx, hb, hml, hown, hts⟩ (met_X1_whole l D cI cJ bd (lwM s ad ao) T ((xs (x4 + 1).toNatClampNeg))) (cwV 1 hts gL_law_X1_whole rfl rfl rfl (by decide +kernel) ⟨Nat.le_of_ble_eq_true rfl, Nat.le_of_ble_eq_true rfl⟩) ⟨fun a U g mk q => ⟨q.1, b1R_calling q.2.1, q.2.2⟩, va_recv hK hI.2.1 (ci := 1) (q0 := 0) rfl rfl, fun U hU hW => ⟨rfl, b1R_at hI.2.1 hK hU hW, hI.2.2.2⟩⟩ rfl rfl hl.1 rfl (lv_room (Nat.le_of_ble_eq_true rfl)) dL_law_914 ⟨by show _ ≤ 3102; omega, by show _ ≤ 118996; omega⟩) hS (fun q _ h => h.1) (fun q h => h.1) (fun r2 u2 t H1 locs ht hvm hw2 hB hz hk2 hS => ?_)
  obtain ⟨hP1, hD1⟩ := hB
  rw [ht] at hP1
  have hI := lwI_m hI hP1 hD1 hk2
  generalize H1 = H at hI hS ⊢
  have hg := ag_whole hR o ((xs (x4 + 1).toNatClampNeg))
  rw [hw, hw2] at hg
  obtain ⟨hg1, hR, hg3⟩ := hg
  refine lv_lstore (lv' := [(6, .long r2), (5, .int r), (4, .int x4), (3, .ref ao), (2, .ref (bd 0)), (1, .ref (ad 0)), (0, .ref b)]) hx hb dL_law_917 hl (by decide) rfl (fun ls hl => ?_)
  refine lv_aload_n hx hb dL_law_919 rfl (lv_at hl 4 rfl) ?_
  refine va_calli (va_runV (As := []) (rest := []) ⟨hx, hb, hml, hown, hts⟩ (met_X1_thrown l D cI cJ bd u2) (cwV 0 hts gL_law_X1_thrown rfl rfl rfl (by decide +kernel) ⟨Nat.le_of_ble_eq_true rfl, Nat.le_of_ble_eq_true rfl⟩) ⟨fun a U g mk q => ⟨q.1, b1R_calling q.2⟩, va_recv hK hI.2.1 (ci := 1) (q0 := 0) rfl rfl, fun U hU hW => ⟨rfl, b1R_at hI.2.1 hK hU hW⟩⟩ rfl rfl hl.1 rfl (lv_room (Nat.le_of_ble_eq_true rfl)) dL_law_920 ⟨by show _ ≤ 3102; omega, by show _ ≤ 118996; omega⟩) hS (fun q _ h => h.elim) (fun q h => h.elim) (fun r3 u3 t H1 locs ht hvm hw3 hB hz hk2 hS => ?_)
  have hI := lwI_k hI hk2
  generalize H1 = H at hI hS ⊢
  have hr3 : r3 = r := by rw [← hw3]; exact hg1
  refine W.widen (k := k + 6) (n := n + 36) (by omega) (by omega) ?_
  refine lv_iload hx hb dL_law_923 (lv_at hl 1 rfl) ?_
  refine lv_icmp_eq (tgt := 930) hx hb dL_law_925 (by decide) (fun cz => ?_) (fun cz => absurd hr3 cz)
  refine lv_iload hx hb dL_law_930 (lv_at hl 1 rfl) ?_
  have kk : W p l e room_1 s m #[Value.ref b] below meth c H locs (k + 6) (n + 36) (lw_Z below #[Value.ref b] s) (F0 m 946 ls []) := by
    refine lv_goto (tgt := 2318) hx hb dL_law_946 (by decide) ?_
    exact K _ _ _ _ _ hI hR hS _ (lv_sub hl [2, 3, 4, 5, 6] rfl)
  refine lv_if_ne (tgt := 946) hx hb dL_law_932 (by decide) (fun cz2 => kk) (fun cz2 => ?_)
  refine lv_aload_n hx hb dL_law_935 rfl (lv_at hl 3 rfl) ?_
  refine lv_iconst (v := 0) hx hb dL_law_936 (by decide) ?_
  refine va_lald hx hb hK hI.1 8 1 rfl rfl in01 dL_law_937 ?_
  refine lv_lload hx hb dL_law_938 (lv_at hl 0 rfl) ?_
  refine W.lcmp hx hb dL_law_940 ?_
  refine lv_if_eq (tgt := 946) hx hb dL_law_941 (by decide) (fun cz3 => kk) (fun cz3 => absurd ((lg_cmp_eq _ _).mpr (hg3 cz2)) cz3)

set_option maxHeartbeats 4000000 in
set_option maxRecDepth 100000 in
theorem lw_c13 {p : Program} {l : Launch} {e : Env} {s : State} {m : MethodId} {below : List Frame} {meth : Method} {c : Code} {b L : Nat} {xs : Nat → Int32} (hfl : l.stackTraces = false) (hL : L ≤ 2048) (C0 : lw_At p s m meth c b L xs) {D : va_G} {cI cJ : ClassId} {ad : Nat → Nat} {ao : Nat} {bd : Nat → Nat} (hK : va_K D pCl (pTy cI cJ) s) (hE : xE (fun q : Nat => s.heap.size ≤ q) s s.heap) (hNc : xN s) (H : Heap) (locs : List Loc) (S : pS) (T : pT) (o : Nat → Int64) (hI : lwI D cI cJ s ad ao bd S o T H) (hR : rel S T) (hS : va_S (fun q : Nat => s.heap.size ≤ q) s.heap H locs) (i : Nat) (hi : i + 4 ≤ L) (x4 : Int32) (hx4 : x4 = nI i) (k n : Nat) (hk : k + 6 ≤ 3102) (hn : n + 36 ≤ 118996) (ls : Array Slot) (hl : lv_has ls 8 [(4, .int x4), (3, .ref ao), (2, .ref (bd 0)), (1, .ref (ad 0)), (0, .ref b)])
    (K : ∀ (H : Heap) (locs : List Loc) (S : pS) (T : pT) (o : Nat → Int64), lwI D cI cJ s ad ao bd S o T H → rel S T → va_S (fun q : Nat => s.heap.size ≤ q) s.heap H locs → ∀ ls : Array Slot, lv_has ls 8 [(4, .int x4), (3, .ref ao), (2, .ref (bd 0)), (1, .ref (ad 0)), (0, .ref b)] → W p l e room_1 s m #[Value.ref b] below meth c H locs (k + 6) (n + 36) (lw_Z below #[Value.ref b] s) (F0 m 2318 ls [])) : W p l e room_1 s m #[Value.ref b] below meth c H locs k n (lw_Z below #[Value.ref b] s) (F0 m 949 ls []) := by
  obtain ⟨hx, hb, hr, hml, hown, hts, hX, hbl, hlocks, hgv⟩ := C0
  have hb : c.code = cL_law := hb
  have hown : s.vm.findClass RL = some m.cls := hown
  have hts : ∀ w ∈ wsL_law, w.before #[Value.ref b] s = true := fun w hw => hts w (wsL_law_in w hw)
  have hbA : ¬ (fun q : Nat => s.heap.size ≤ q) b := Nat.not_le.mpr hbl
  obtain ⟨hi0, hi1, hi2, hi3⟩ := lw_n hL hi hx4
  refine lv_aload_n hx hb dL_law_949 rfl (lv_at hl 3 rfl) ?_
  refine lv_aload_n hx hb dL_law_950 rfl (lv_at hl 4 rfl) ?_
  refine lv_iload hx hb dL_law_951 (lv_at hl 0 rfl) ?_
  refine lv_iconst (v := 1) hx hb dL_law_953 (by decide) ?_
  refine lv_iadd hx hb dL_law_954 ?_
  refine va_sld hx hb hX hbl hbA hS hi1 dL_law_955 ?_
  refine lv_aload_n hx hb dL_law_956 rfl (lv_at hl 4 rfl) ?_
  refine lv_iload hx hb dL_law_957 (lv_at hl 0 rfl) ?_
  refine lv_iconst (v := 2) hx hb dL_law_959 (by decide) ?_
  refine lv_iadd hx hb dL_law_960 ?_
  refine va_sld hx hb hX hbl hbA hS hi2 dL_law_961 ?_
  refine lv_aload_n hx hb dL_law_962 rfl (lv_at hl 1 rfl) ?_
  refine va_calli (vx_runSW (As := [.ref (ad 0), .int (xs (x4 + 1).toNatClampNeg), .int (xs (x4 + 2).toNatClampNeg), .ref ao]) (rest := []) ⟨hx, hb, hml, hown, hts⟩ (met_L_compare l hfl D cI cJ ad ao (lwX s bd) S o ((xs (x4 + 1).toNatClampNeg)) ((xs (x4 + 2).toNatClampNeg))) (vx_cwSW 4 hts gL_law_L_compare rfl rfl rfl (by decide +kernel) ⟨Nat.le_of_ble_eq_true rfl, Nat.le_of_ble_eq_true rfl⟩) ⟨fun a U g mk q => ⟨q.1, q.2.1, va_K.moved (u := U) (U := U.calling g mk a) (Vm.Alike.refl U.vm) q.2.2.1, q.2.2.2.1, xE_calling q.2.2.2.2.1, xN_calling q.2.2.2.2.2⟩, fun U hU hW => ⟨rfl, by rw [hU]; exact hI.1, va_K.moved hW.alike hK, hI.2.2.1, xE_narrow (xE_at hE hS hU hW) (fun q h => h.elim), xN_at hNc hW⟩⟩ rfl rfl hl.1 rfl (lv_room (Nat.le_of_ble_eq_true rfl)) dL_law_963 ⟨by show _ ≤ 3102; omega, by show _ ≤ 118996; omega⟩) hS (fun q _ h => h.1) (fun q h => h.1) (fun r u t H1 locs ht hvm hw hB hz hk1 hS => ?_)
  rw [ht] at hB
  have hI := lwI_x hI hB hk1
  generalize H1 = H at hI hS ⊢
  refine lv_istore (lv' := [(5, .int r), (4, .int x4), (3, .ref ao), (2, .ref (bd 0)), (1, .ref (ad 0)), (0, .ref b)]) hx hb dL_law_966 hl (by decide) rfl (fun ls hl => ?_)
  refine lv_aload_n hx hb dL_law_968 rfl (lv_at hl 3 rfl) ?_
  refine lv_aload_n hx hb dL_law_969 rfl (lv_at hl 5 rfl) ?_
  refine lv_iload hx hb dL_law_970 (lv_at hl 1 rfl) ?_
  refine lv_iconst (v := 1) hx hb dL_law_972 (by decide) ?_
  refine lv_iadd hx hb dL_law_973 ?_
  refine va_sld hx hb hX hbl hbA hS hi1 dL_law_974 ?_
  refine lv_aload_n hx hb dL_law_975 rfl (lv_at hl 5 rfl) ?_
  refine lv_iload hx hb dL_law_976 (lv_at hl 1 rfl) ?_
  refine lv_iconst (v := 2) hx hb dL_law_978 (by decide) ?_
  refine lv_iadd hx hb dL_law_979 ?_
  refine va_sld hx hb hX hbl hbA hS hi2 dL_law_980 ?_
  refine va_calli (va_runV (As := [.int (xs (x4 + 1).toNatClampNeg), .int (xs (x4 + 2).toNatClampNeg)]) (rest := []) ⟨hx, hb, hml, hown, hts⟩ (met_X1_compare l D cI cJ bd (lwM s ad ao) T ((xs (x4 + 1).toNatClampNeg)) ((xs (x4 + 2).toNatClampNeg))) (cwV 2 hts gL_law_X1_compare rfl rfl rfl (by decide +kernel) ⟨Nat.le_of_ble_eq_true rfl, Nat.le_of_ble_eq_true rfl⟩) ⟨fun a U g mk q => ⟨q.1, b1R_calling q.2.1, q.2.2⟩, va_recv hK hI.2.1 (ci := 1) (q0 := 0) rfl rfl, fun U hU hW => ⟨rfl, b1R_at hI.2.1 hK hU hW, hI.2.2.2⟩⟩ rfl rfl hl.1 rfl (lv_room (Nat.le_of_ble_eq_true rfl)) dL_law_981 ⟨by show _ ≤ 3102; omega, by show _ ≤ 118996; omega⟩) hS (fun q _ h => h.1) (fun q h => h.1) (fun r2 u2 t H1 locs ht hvm hw2 hB hz hk2 hS => ?_)
  obtain ⟨hP1, hD1⟩ := hB
  rw [ht] at hP1
  have hI := lwI_m hI hP1 hD1 hk2
  generalize H1 = H at hI hS ⊢
  have hg := ag_compare hR o ((xs (x4 + 1).toNatClampNeg)) ((xs (x4 + 2).toNatClampNeg))
  rw [hw, hw2] at hg
  obtain ⟨hg1, hR, hg3⟩ := hg
  refine lv_istore (lv' := [(6, .int r2), (5, .int r), (4, .int x4), (3, .ref ao), (2, .ref (bd 0)), (1, .ref (ad 0)), (0, .ref b)]) hx hb dL_law_984 hl (by decide) rfl (fun ls hl => ?_)
  refine lv_aload_n hx hb dL_law_986 rfl (lv_at hl 4 rfl) ?_
  refine va_calli (va_runV (As := []) (rest := []) ⟨hx, hb, hml, hown, hts⟩ (met_X1_thrown l D cI cJ bd u2) (cwV 0 hts gL_law_X1_thrown rfl rfl rfl (by decide +kernel) ⟨Nat.le_of_ble_eq_true rfl, Nat.le_of_ble_eq_true rfl⟩) ⟨fun a U g mk q => ⟨q.1, b1R_calling q.2⟩, va_recv hK hI.2.1 (ci := 1) (q0 := 0) rfl rfl, fun U hU hW => ⟨rfl, b1R_at hI.2.1 hK hU hW⟩⟩ rfl rfl hl.1 rfl (lv_room (Nat.le_of_ble_eq_true rfl)) dL_law_987 ⟨by show _ ≤ 3102; omega, by show _ ≤ 118996; omega⟩) hS (fun q _ h => h.elim) (fun q h => h.elim) (fun r3 u3 t H1 locs ht hvm hw3 hB hz hk2 hS => ?_)
  have hI := lwI_k hI hk2
  generalize H1 = H at hI hS ⊢
  have hr3 : r3 = r := by rw [← hw3]; exact hg1
  refine W.widen (k := k + 6) (n := n + 36) (by omega) (by omega) ?_
  refine lv_iload hx hb dL_law_990 (lv_at hl 1 rfl) ?_
  refine lv_icmp_eq (tgt := 997) hx hb dL_law_992 (by decide) (fun cz => ?_) (fun cz => absurd hr3 cz)
  refine lv_iload hx hb dL_law_997 (lv_at hl 1 rfl) ?_
  have kk : W p l e room_1 s m #[Value.ref b] below meth c H locs (k + 6) (n + 36) (lw_Z below #[Value.ref b] s) (F0 m 1014 ls []) := by
    refine lv_goto (tgt := 2318) hx hb dL_law_1014 (by decide) ?_
    exact K _ _ _ _ _ hI hR hS _ (lv_sub hl [2, 3, 4, 5, 6] rfl)
  refine lv_if_ne (tgt := 1014) hx hb dL_law_999 (by decide) (fun cz2 => kk) (fun cz2 => ?_)
  refine lv_aload_n hx hb dL_law_1002 rfl (lv_at hl 3 rfl) ?_
  refine lv_iconst (v := 0) hx hb dL_law_1003 (by decide) ?_
  refine va_lald hx hb hK hI.1 8 1 rfl rfl in01 dL_law_1004 ?_
  refine lv_iload hx hb dL_law_1005 (lv_at hl 0 rfl) ?_
  refine lv_i2l hx hb dL_law_1007 rfl ?_
  refine W.lcmp hx hb dL_law_1008 ?_
  refine lv_if_eq (tgt := 1014) hx hb dL_law_1009 (by decide) (fun cz3 => kk) (fun cz3 => absurd ((lg_cmp_eq _ _).mpr (hg3 cz2)) cz3)

set_option maxHeartbeats 4000000 in
set_option maxRecDepth 100000 in
theorem lw_c14 {p : Program} {l : Launch} {e : Env} {s : State} {m : MethodId} {below : List Frame} {meth : Method} {c : Code} {b L : Nat} {xs : Nat → Int32} (hfl : l.stackTraces = false) (hL : L ≤ 2048) (C0 : lw_At p s m meth c b L xs) {D : va_G} {cI cJ : ClassId} {ad : Nat → Nat} {ao : Nat} {bd : Nat → Nat} (hK : va_K D pCl (pTy cI cJ) s) (hE : xE (fun q : Nat => s.heap.size ≤ q) s s.heap) (hNc : xN s) (H : Heap) (locs : List Loc) (S : pS) (T : pT) (o : Nat → Int64) (hI : lwI D cI cJ s ad ao bd S o T H) (hR : rel S T) (hS : va_S (fun q : Nat => s.heap.size ≤ q) s.heap H locs) (i : Nat) (hi : i + 4 ≤ L) (x4 : Int32) (hx4 : x4 = nI i) (k n : Nat) (hk : k + 6 ≤ 3102) (hn : n + 36 ≤ 118996) (ls : Array Slot) (hl : lv_has ls 8 [(4, .int x4), (3, .ref ao), (2, .ref (bd 0)), (1, .ref (ad 0)), (0, .ref b)])
    (K : ∀ (H : Heap) (locs : List Loc) (S : pS) (T : pT) (o : Nat → Int64), lwI D cI cJ s ad ao bd S o T H → rel S T → va_S (fun q : Nat => s.heap.size ≤ q) s.heap H locs → ∀ ls : Array Slot, lv_has ls 8 [(4, .int x4), (3, .ref ao), (2, .ref (bd 0)), (1, .ref (ad 0)), (0, .ref b)] → W p l e room_1 s m #[Value.ref b] below meth c H locs (k + 6) (n + 36) (lw_Z below #[Value.ref b] s) (F0 m 2318 ls [])) : W p l e room_1 s m #[Value.ref b] below meth c H locs k n (lw_Z below #[Value.ref b] s) (F0 m 1017 ls []) := by
  obtain ⟨hx, hb, hr, hml, hown, hts, hX, hbl, hlocks, hgv⟩ := C0
  have hb : c.code = cL_law := hb
  have hown : s.vm.findClass RL = some m.cls := hown
  have hts : ∀ w ∈ wsL_law, w.before #[Value.ref b] s = true := fun w hw => hts w (wsL_law_in w hw)
  have hbA : ¬ (fun q : Nat => s.heap.size ≤ q) b := Nat.not_le.mpr hbl
  obtain ⟨hi0, hi1, hi2, hi3⟩ := lw_n hL hi hx4
  refine lv_aload_n hx hb dL_law_1017 rfl (lv_at hl 3 rfl) ?_
  refine lv_aload_n hx hb dL_law_1018 rfl (lv_at hl 4 rfl) ?_
  refine lv_iload hx hb dL_law_1019 (lv_at hl 0 rfl) ?_
  refine lv_iconst (v := 1) hx hb dL_law_1021 (by decide) ?_
  refine lv_iadd hx hb dL_law_1022 ?_
  refine va_sld hx hb hX hbl hbA hS hi1 dL_law_1023 ?_
  refine lv_aload_n hx hb dL_law_1024 rfl (lv_at hl 1 rfl) ?_
  refine va_calli (vx_runSW (As := [.ref (ad 0), .int (xs (x4 + 1).toNatClampNeg), .ref ao]) (rest := []) ⟨hx, hb, hml, hown, hts⟩ (met_L_rank l hfl D cI cJ ad ao (lwX s bd) S o ((xs (x4 + 1).toNatClampNeg))) (vx_cwSW 3 hts gL_law_L_rank rfl rfl rfl (by decide +kernel) ⟨Nat.le_of_ble_eq_true rfl, Nat.le_of_ble_eq_true rfl⟩) ⟨fun a U g mk q => ⟨q.1, q.2.1, va_K.moved (u := U) (U := U.calling g mk a) (Vm.Alike.refl U.vm) q.2.2.1, q.2.2.2.1, xE_calling q.2.2.2.2.1, xN_calling q.2.2.2.2.2⟩, fun U hU hW => ⟨rfl, by rw [hU]; exact hI.1, va_K.moved hW.alike hK, hI.2.2.1, xE_narrow (xE_at hE hS hU hW) (fun q h => h.elim), xN_at hNc hW⟩⟩ rfl rfl hl.1 rfl (lv_room (Nat.le_of_ble_eq_true rfl)) dL_law_1025 ⟨by show _ ≤ 3102; omega, by show _ ≤ 118996; omega⟩) hS (fun q _ h => h.1) (fun q h => h.1) (fun r u t H1 locs ht hvm hw hB hz hk1 hS => ?_)
  rw [ht] at hB
  have hI := lwI_x hI hB hk1
  generalize H1 = H at hI hS ⊢
  refine lv_istore (lv' := [(5, .int r), (4, .int x4), (3, .ref ao), (2, .ref (bd 0)), (1, .ref (ad 0)), (0, .ref b)]) hx hb dL_law_1028 hl (by decide) rfl (fun ls hl => ?_)
  refine lv_aload_n hx hb dL_law_1030 rfl (lv_at hl 3 rfl) ?_
  refine lv_aload_n hx hb dL_law_1031 rfl (lv_at hl 5 rfl) ?_
  refine lv_iload hx hb dL_law_1032 (lv_at hl 1 rfl) ?_
  refine lv_iconst (v := 1) hx hb dL_law_1034 (by decide) ?_
  refine lv_iadd hx hb dL_law_1035 ?_
  refine va_sld hx hb hX hbl hbA hS hi1 dL_law_1036 ?_
  refine va_calli (va_runV (As := [.int (xs (x4 + 1).toNatClampNeg)]) (rest := []) ⟨hx, hb, hml, hown, hts⟩ (met_X1_rank l D cI cJ bd (lwM s ad ao) T ((xs (x4 + 1).toNatClampNeg))) (cwV 1 hts gL_law_X1_rank rfl rfl rfl (by decide +kernel) ⟨Nat.le_of_ble_eq_true rfl, Nat.le_of_ble_eq_true rfl⟩) ⟨fun a U g mk q => ⟨q.1, b1R_calling q.2.1, q.2.2⟩, va_recv hK hI.2.1 (ci := 1) (q0 := 0) rfl rfl, fun U hU hW => ⟨rfl, b1R_at hI.2.1 hK hU hW, hI.2.2.2⟩⟩ rfl rfl hl.1 rfl (lv_room (Nat.le_of_ble_eq_true rfl)) dL_law_1037 ⟨by show _ ≤ 3102; omega, by show _ ≤ 118996; omega⟩) hS (fun q _ h => h.1) (fun q h => h.1) (fun r2 u2 t H1 locs ht hvm hw2 hB hz hk2 hS => ?_)
  obtain ⟨hP1, hD1⟩ := hB
  rw [ht] at hP1
  have hI := lwI_m hI hP1 hD1 hk2
  generalize H1 = H at hI hS ⊢
  have hg := ag_rank hR o ((xs (x4 + 1).toNatClampNeg))
  rw [hw, hw2] at hg
  obtain ⟨hg1, hR, hg3⟩ := hg
  refine lv_istore (lv' := [(6, .int r2), (5, .int r), (4, .int x4), (3, .ref ao), (2, .ref (bd 0)), (1, .ref (ad 0)), (0, .ref b)]) hx hb dL_law_1040 hl (by decide) rfl (fun ls hl => ?_)
  refine lv_aload_n hx hb dL_law_1042 rfl (lv_at hl 4 rfl) ?_
  refine va_calli (va_runV (As := []) (rest := []) ⟨hx, hb, hml, hown, hts⟩ (met_X1_thrown l D cI cJ bd u2) (cwV 0 hts gL_law_X1_thrown rfl rfl rfl (by decide +kernel) ⟨Nat.le_of_ble_eq_true rfl, Nat.le_of_ble_eq_true rfl⟩) ⟨fun a U g mk q => ⟨q.1, b1R_calling q.2⟩, va_recv hK hI.2.1 (ci := 1) (q0 := 0) rfl rfl, fun U hU hW => ⟨rfl, b1R_at hI.2.1 hK hU hW⟩⟩ rfl rfl hl.1 rfl (lv_room (Nat.le_of_ble_eq_true rfl)) dL_law_1043 ⟨by show _ ≤ 3102; omega, by show _ ≤ 118996; omega⟩) hS (fun q _ h => h.elim) (fun q h => h.elim) (fun r3 u3 t H1 locs ht hvm hw3 hB hz hk2 hS => ?_)
  have hI := lwI_k hI hk2
  generalize H1 = H at hI hS ⊢
  have hr3 : r3 = r := by rw [← hw3]; exact hg1
  refine W.widen (k := k + 6) (n := n + 36) (by omega) (by omega) ?_
  refine lv_iload hx hb dL_law_1046 (lv_at hl 1 rfl) ?_
  refine lv_icmp_eq (tgt := 1053) hx hb dL_law_1048 (by decide) (fun cz => ?_) (fun cz => absurd hr3 cz)
  refine lv_iload hx hb dL_law_1053 (lv_at hl 1 rfl) ?_
  have kk : W p l e room_1 s m #[Value.ref b] below meth c H locs (k + 6) (n + 36) (lw_Z below #[Value.ref b] s) (F0 m 1070 ls []) := by
    refine lv_goto (tgt := 2318) hx hb dL_law_1070 (by decide) ?_
    exact K _ _ _ _ _ hI hR hS _ (lv_sub hl [2, 3, 4, 5, 6] rfl)
  refine lv_if_ne (tgt := 1070) hx hb dL_law_1055 (by decide) (fun cz2 => kk) (fun cz2 => ?_)
  refine lv_aload_n hx hb dL_law_1058 rfl (lv_at hl 3 rfl) ?_
  refine lv_iconst (v := 0) hx hb dL_law_1059 (by decide) ?_
  refine va_lald hx hb hK hI.1 8 1 rfl rfl in01 dL_law_1060 ?_
  refine lv_iload hx hb dL_law_1061 (lv_at hl 0 rfl) ?_
  refine lv_i2l hx hb dL_law_1063 rfl ?_
  refine W.lcmp hx hb dL_law_1064 ?_
  refine lv_if_eq (tgt := 1070) hx hb dL_law_1065 (by decide) (fun cz3 => kk) (fun cz3 => absurd ((lg_cmp_eq _ _).mpr (hg3 cz2)) cz3)

set_option maxHeartbeats 4000000 in
set_option maxRecDepth 100000 in
theorem lw_c15 {p : Program} {l : Launch} {e : Env} {s : State} {m : MethodId} {below : List Frame} {meth : Method} {c : Code} {b L : Nat} {xs : Nat → Int32} (hfl : l.stackTraces = false) (hL : L ≤ 2048) (C0 : lw_At p s m meth c b L xs) {D : va_G} {cI cJ : ClassId} {ad : Nat → Nat} {ao : Nat} {bd : Nat → Nat} (hK : va_K D pCl (pTy cI cJ) s) (hE : xE (fun q : Nat => s.heap.size ≤ q) s s.heap) (hNc : xN s) (H : Heap) (locs : List Loc) (S : pS) (T : pT) (o : Nat → Int64) (hI : lwI D cI cJ s ad ao bd S o T H) (hR : rel S T) (hS : va_S (fun q : Nat => s.heap.size ≤ q) s.heap H locs) (i : Nat) (hi : i + 4 ≤ L) (x4 : Int32) (hx4 : x4 = nI i) (k n : Nat) (hk : k + 6 ≤ 3102) (hn : n + 36 ≤ 118996) (ls : Array Slot) (hl : lv_has ls 8 [(4, .int x4), (3, .ref ao), (2, .ref (bd 0)), (1, .ref (ad 0)), (0, .ref b)])
    (K : ∀ (H : Heap) (locs : List Loc) (S : pS) (T : pT) (o : Nat → Int64), lwI D cI cJ s ad ao bd S o T H → rel S T → va_S (fun q : Nat => s.heap.size ≤ q) s.heap H locs → ∀ ls : Array Slot, lv_has ls 8 [(4, .int x4), (3, .ref ao), (2, .ref (bd 0)), (1, .ref (ad 0)), (0, .ref b)] → W p l e room_1 s m #[Value.ref b] below meth c H locs (k + 6) (n + 36) (lw_Z below #[Value.ref b] s) (F0 m 2318 ls [])) : W p l e room_1 s m #[Value.ref b] below meth c H locs k n (lw_Z below #[Value.ref b] s) (F0 m 1073 ls []) := by
  obtain ⟨hx, hb, hr, hml, hown, hts, hX, hbl, hlocks, hgv⟩ := C0
  have hb : c.code = cL_law := hb
  have hown : s.vm.findClass RL = some m.cls := hown
  have hts : ∀ w ∈ wsL_law, w.before #[Value.ref b] s = true := fun w hw => hts w (wsL_law_in w hw)
  have hbA : ¬ (fun q : Nat => s.heap.size ≤ q) b := Nat.not_le.mpr hbl
  obtain ⟨hi0, hi1, hi2, hi3⟩ := lw_n hL hi hx4
  refine lv_aload_n hx hb dL_law_1073 rfl (lv_at hl 3 rfl) ?_
  refine lv_aload_n hx hb dL_law_1074 rfl (lv_at hl 4 rfl) ?_
  refine lv_iload hx hb dL_law_1075 (lv_at hl 0 rfl) ?_
  refine lv_iconst (v := 1) hx hb dL_law_1077 (by decide) ?_
  refine lv_iadd hx hb dL_law_1078 ?_
  refine va_sld hx hb hX hbl hbA hS hi1 dL_law_1079 ?_
  refine lv_aload_n hx hb dL_law_1080 rfl (lv_at hl 1 rfl) ?_
  refine va_calli (vx_runSW (As := [.ref (ad 0), .int (xs (x4 + 1).toNatClampNeg), .ref ao]) (rest := []) ⟨hx, hb, hml, hown, hts⟩ (met_L_at l hfl D cI cJ ad ao (lwX s bd) S o ((xs (x4 + 1).toNatClampNeg))) (vx_cwSW 3 hts gL_law_L_at rfl rfl rfl (by decide +kernel) ⟨Nat.le_of_ble_eq_true rfl, Nat.le_of_ble_eq_true rfl⟩) ⟨fun a U g mk q => ⟨q.1, q.2.1, va_K.moved (u := U) (U := U.calling g mk a) (Vm.Alike.refl U.vm) q.2.2.1, q.2.2.2.1, xE_calling q.2.2.2.2.1, xN_calling q.2.2.2.2.2⟩, fun U hU hW => ⟨rfl, by rw [hU]; exact hI.1, va_K.moved hW.alike hK, hI.2.2.1, xE_narrow (xE_at hE hS hU hW) (fun q h => h.elim), xN_at hNc hW⟩⟩ rfl rfl hl.1 rfl (lv_room (Nat.le_of_ble_eq_true rfl)) dL_law_1081 ⟨by show _ ≤ 3102; omega, by show _ ≤ 118996; omega⟩) hS (fun q _ h => h.1) (fun q h => h.1) (fun r u t H1 locs ht hvm hw hB hz hk1 hS => ?_)
  rw [ht] at hB
  have hI := lwI_x hI hB hk1
  generalize H1 = H at hI hS ⊢
  refine lv_istore (lv' := [(5, .int r), (4, .int x4), (3, .ref ao), (2, .ref (bd 0)), (1, .ref (ad 0)), (0, .ref b)]) hx hb dL_law_1084 hl (by decide) rfl (fun ls hl => ?_)
  refine lv_aload_n hx hb dL_law_1086 rfl (lv_at hl 3 rfl) ?_
  refine lv_aload_n hx hb dL_law_1087 rfl (lv_at hl 5 rfl) ?_
  refine lv_iload hx hb dL_law_1088 (lv_at hl 1 rfl) ?_
  refine lv_iconst (v := 1) hx hb dL_law_1090 (by decide) ?_
  refine lv_iadd hx hb dL_law_1091 ?_
  refine va_sld hx hb hX hbl hbA hS hi1 dL_law_1092 ?_
  refine va_calli (va_runV (As := [.int (xs (x4 + 1).toNatClampNeg)]) (rest := []) ⟨hx, hb, hml, hown, hts⟩ (met_X1_at l D cI cJ bd (lwM s ad ao) T ((xs (x4 + 1).toNatClampNeg))) (cwV 1 hts gL_law_X1_at rfl rfl rfl (by decide +kernel) ⟨Nat.le_of_ble_eq_true rfl, Nat.le_of_ble_eq_true rfl⟩) ⟨fun a U g mk q => ⟨q.1, b1R_calling q.2.1, q.2.2⟩, va_recv hK hI.2.1 (ci := 1) (q0 := 0) rfl rfl, fun U hU hW => ⟨rfl, b1R_at hI.2.1 hK hU hW, hI.2.2.2⟩⟩ rfl rfl hl.1 rfl (lv_room (Nat.le_of_ble_eq_true rfl)) dL_law_1093 ⟨by show _ ≤ 3102; omega, by show _ ≤ 118996; omega⟩) hS (fun q _ h => h.1) (fun q h => h.1) (fun r2 u2 t H1 locs ht hvm hw2 hB hz hk2 hS => ?_)
  obtain ⟨hP1, hD1⟩ := hB
  rw [ht] at hP1
  have hI := lwI_m hI hP1 hD1 hk2
  generalize H1 = H at hI hS ⊢
  have hg := ag_at hR o ((xs (x4 + 1).toNatClampNeg))
  rw [hw, hw2] at hg
  obtain ⟨hg1, hR, hg3⟩ := hg
  refine lv_istore (lv' := [(6, .int r2), (5, .int r), (4, .int x4), (3, .ref ao), (2, .ref (bd 0)), (1, .ref (ad 0)), (0, .ref b)]) hx hb dL_law_1096 hl (by decide) rfl (fun ls hl => ?_)
  refine lv_aload_n hx hb dL_law_1098 rfl (lv_at hl 4 rfl) ?_
  refine va_calli (va_runV (As := []) (rest := []) ⟨hx, hb, hml, hown, hts⟩ (met_X1_thrown l D cI cJ bd u2) (cwV 0 hts gL_law_X1_thrown rfl rfl rfl (by decide +kernel) ⟨Nat.le_of_ble_eq_true rfl, Nat.le_of_ble_eq_true rfl⟩) ⟨fun a U g mk q => ⟨q.1, b1R_calling q.2⟩, va_recv hK hI.2.1 (ci := 1) (q0 := 0) rfl rfl, fun U hU hW => ⟨rfl, b1R_at hI.2.1 hK hU hW⟩⟩ rfl rfl hl.1 rfl (lv_room (Nat.le_of_ble_eq_true rfl)) dL_law_1099 ⟨by show _ ≤ 3102; omega, by show _ ≤ 118996; omega⟩) hS (fun q _ h => h.elim) (fun q h => h.elim) (fun r3 u3 t H1 locs ht hvm hw3 hB hz hk2 hS => ?_)
  have hI := lwI_k hI hk2
  generalize H1 = H at hI hS ⊢
  have hr3 : r3 = r := by rw [← hw3]; exact hg1
  refine W.widen (k := k + 6) (n := n + 36) (by omega) (by omega) ?_
  refine lv_iload hx hb dL_law_1102 (lv_at hl 1 rfl) ?_
  refine lv_icmp_eq (tgt := 1109) hx hb dL_law_1104 (by decide) (fun cz => ?_) (fun cz => absurd hr3 cz)
  refine lv_iload hx hb dL_law_1109 (lv_at hl 1 rfl) ?_
  have kk : W p l e room_1 s m #[Value.ref b] below meth c H locs (k + 6) (n + 36) (lw_Z below #[Value.ref b] s) (F0 m 1126 ls []) := by
    refine lv_goto (tgt := 2318) hx hb dL_law_1126 (by decide) ?_
    exact K _ _ _ _ _ hI hR hS _ (lv_sub hl [2, 3, 4, 5, 6] rfl)
  refine lv_if_ne (tgt := 1126) hx hb dL_law_1111 (by decide) (fun cz2 => kk) (fun cz2 => ?_)
  refine lv_aload_n hx hb dL_law_1114 rfl (lv_at hl 3 rfl) ?_
  refine lv_iconst (v := 0) hx hb dL_law_1115 (by decide) ?_
  refine va_lald hx hb hK hI.1 8 1 rfl rfl in01 dL_law_1116 ?_
  refine lv_iload hx hb dL_law_1117 (lv_at hl 0 rfl) ?_
  refine lv_i2l hx hb dL_law_1119 rfl ?_
  refine W.lcmp hx hb dL_law_1120 ?_
  refine lv_if_eq (tgt := 1126) hx hb dL_law_1121 (by decide) (fun cz3 => kk) (fun cz3 => absurd ((lg_cmp_eq _ _).mpr (hg3 cz2)) cz3)

set_option maxHeartbeats 4000000 in
set_option maxRecDepth 100000 in
theorem lw_c16 {p : Program} {l : Launch} {e : Env} {s : State} {m : MethodId} {below : List Frame} {meth : Method} {c : Code} {b L : Nat} {xs : Nat → Int32} (hfl : l.stackTraces = false) (hL : L ≤ 2048) (C0 : lw_At p s m meth c b L xs) {D : va_G} {cI cJ : ClassId} {ad : Nat → Nat} {ao : Nat} {bd : Nat → Nat} (hK : va_K D pCl (pTy cI cJ) s) (hE : xE (fun q : Nat => s.heap.size ≤ q) s s.heap) (hNc : xN s) (H : Heap) (locs : List Loc) (S : pS) (T : pT) (o : Nat → Int64) (hI : lwI D cI cJ s ad ao bd S o T H) (hR : rel S T) (hS : va_S (fun q : Nat => s.heap.size ≤ q) s.heap H locs) (i : Nat) (hi : i + 4 ≤ L) (x4 : Int32) (hx4 : x4 = nI i) (k n : Nat) (hk : k + 6 ≤ 3102) (hn : n + 36 ≤ 118996) (ls : Array Slot) (hl : lv_has ls 8 [(4, .int x4), (3, .ref ao), (2, .ref (bd 0)), (1, .ref (ad 0)), (0, .ref b)])
    (K : ∀ (H : Heap) (locs : List Loc) (S : pS) (T : pT) (o : Nat → Int64), lwI D cI cJ s ad ao bd S o T H → rel S T → va_S (fun q : Nat => s.heap.size ≤ q) s.heap H locs → ∀ ls : Array Slot, lv_has ls 8 [(4, .int x4), (3, .ref ao), (2, .ref (bd 0)), (1, .ref (ad 0)), (0, .ref b)] → W p l e room_1 s m #[Value.ref b] below meth c H locs (k + 6) (n + 36) (lw_Z below #[Value.ref b] s) (F0 m 2318 ls [])) : W p l e room_1 s m #[Value.ref b] below meth c H locs k n (lw_Z below #[Value.ref b] s) (F0 m 1129 ls []) := by
  obtain ⟨hx, hb, hr, hml, hown, hts, hX, hbl, hlocks, hgv⟩ := C0
  have hb : c.code = cL_law := hb
  have hown : s.vm.findClass RL = some m.cls := hown
  have hts : ∀ w ∈ wsL_law, w.before #[Value.ref b] s = true := fun w hw => hts w (wsL_law_in w hw)
  have hbA : ¬ (fun q : Nat => s.heap.size ≤ q) b := Nat.not_le.mpr hbl
  obtain ⟨hi0, hi1, hi2, hi3⟩ := lw_n hL hi hx4
  refine lv_aload_n hx hb dL_law_1129 rfl (lv_at hl 3 rfl) ?_
  refine lv_aload_n hx hb dL_law_1130 rfl (lv_at hl 4 rfl) ?_
  refine lv_iload hx hb dL_law_1131 (lv_at hl 0 rfl) ?_
  refine lv_iconst (v := 1) hx hb dL_law_1133 (by decide) ?_
  refine lv_iadd hx hb dL_law_1134 ?_
  refine va_sld hx hb hX hbl hbA hS hi1 dL_law_1135 ?_
  refine lv_aload_n hx hb dL_law_1136 rfl (lv_at hl 4 rfl) ?_
  refine lv_iload hx hb dL_law_1137 (lv_at hl 0 rfl) ?_
  refine lv_iconst (v := 2) hx hb dL_law_1139 (by decide) ?_
  refine lv_iadd hx hb dL_law_1140 ?_
  refine va_sld hx hb hX hbl hbA hS hi2 dL_law_1141 ?_
  refine lv_aload_n hx hb dL_law_1142 rfl (lv_at hl 1 rfl) ?_
  refine va_calli (vx_runSW (As := [.ref (ad 0), .int (xs (x4 + 1).toNatClampNeg), .int (xs (x4 + 2).toNatClampNeg), .ref ao]) (rest := []) ⟨hx, hb, hml, hown, hts⟩ (met_L_log l hfl D cI cJ ad ao (lwX s bd) S o ((xs (x4 + 1).toNatClampNeg)) ((xs (x4 + 2).toNatClampNeg))) (vx_cwSW 4 hts gL_law_L_log rfl rfl rfl (by decide +kernel) ⟨Nat.le_of_ble_eq_true rfl, Nat.le_of_ble_eq_true rfl⟩) ⟨fun a U g mk q => ⟨q.1, q.2.1, va_K.moved (u := U) (U := U.calling g mk a) (Vm.Alike.refl U.vm) q.2.2.1, q.2.2.2.1, xE_calling q.2.2.2.2.1, xN_calling q.2.2.2.2.2⟩, fun U hU hW => ⟨rfl, by rw [hU]; exact hI.1, va_K.moved hW.alike hK, hI.2.2.1, xE_narrow (xE_at hE hS hU hW) (fun q h => h.elim), xN_at hNc hW⟩⟩ rfl rfl hl.1 rfl (lv_room (Nat.le_of_ble_eq_true rfl)) dL_law_1143 ⟨by show _ ≤ 3102; omega, by show _ ≤ 118996; omega⟩) hS (fun q _ h => h.1) (fun q h => h.1) (fun r u t H1 locs ht hvm hw hB hz hk1 hS => ?_)
  rw [ht] at hB
  have hI := lwI_x hI hB hk1
  generalize H1 = H at hI hS ⊢
  refine lv_istore (lv' := [(5, .int r), (4, .int x4), (3, .ref ao), (2, .ref (bd 0)), (1, .ref (ad 0)), (0, .ref b)]) hx hb dL_law_1146 hl (by decide) rfl (fun ls hl => ?_)
  refine lv_aload_n hx hb dL_law_1148 rfl (lv_at hl 3 rfl) ?_
  refine lv_aload_n hx hb dL_law_1149 rfl (lv_at hl 5 rfl) ?_
  refine lv_iload hx hb dL_law_1150 (lv_at hl 1 rfl) ?_
  refine lv_iconst (v := 1) hx hb dL_law_1152 (by decide) ?_
  refine lv_iadd hx hb dL_law_1153 ?_
  refine va_sld hx hb hX hbl hbA hS hi1 dL_law_1154 ?_
  refine lv_aload_n hx hb dL_law_1155 rfl (lv_at hl 5 rfl) ?_
  refine lv_iload hx hb dL_law_1156 (lv_at hl 1 rfl) ?_
  refine lv_iconst (v := 2) hx hb dL_law_1158 (by decide) ?_
  refine lv_iadd hx hb dL_law_1159 ?_
  refine va_sld hx hb hX hbl hbA hS hi2 dL_law_1160 ?_
  refine va_calli (va_runV (As := [.int (xs (x4 + 1).toNatClampNeg), .int (xs (x4 + 2).toNatClampNeg)]) (rest := []) ⟨hx, hb, hml, hown, hts⟩ (met_X1_log l D cI cJ bd (lwM s ad ao) T ((xs (x4 + 1).toNatClampNeg)) ((xs (x4 + 2).toNatClampNeg))) (cwV 2 hts gL_law_X1_log rfl rfl rfl (by decide +kernel) ⟨Nat.le_of_ble_eq_true rfl, Nat.le_of_ble_eq_true rfl⟩) ⟨fun a U g mk q => ⟨q.1, b1R_calling q.2.1, q.2.2⟩, va_recv hK hI.2.1 (ci := 1) (q0 := 0) rfl rfl, fun U hU hW => ⟨rfl, b1R_at hI.2.1 hK hU hW, hI.2.2.2⟩⟩ rfl rfl hl.1 rfl (lv_room (Nat.le_of_ble_eq_true rfl)) dL_law_1161 ⟨by show _ ≤ 3102; omega, by show _ ≤ 118996; omega⟩) hS (fun q _ h => h.1) (fun q h => h.1) (fun r2 u2 t H1 locs ht hvm hw2 hB hz hk2 hS => ?_)
  obtain ⟨hP1, hD1⟩ := hB
  rw [ht] at hP1
  have hI := lwI_m hI hP1 hD1 hk2
  generalize H1 = H at hI hS ⊢
  have hg := ag_log hR o ((xs (x4 + 1).toNatClampNeg)) ((xs (x4 + 2).toNatClampNeg))
  rw [hw, hw2] at hg
  obtain ⟨hg1, hR, hg3⟩ := hg
  refine lv_istore (lv' := [(6, .int r2), (5, .int r), (4, .int x4), (3, .ref ao), (2, .ref (bd 0)), (1, .ref (ad 0)), (0, .ref b)]) hx hb dL_law_1164 hl (by decide) rfl (fun ls hl => ?_)
  refine lv_aload_n hx hb dL_law_1166 rfl (lv_at hl 4 rfl) ?_
  refine va_calli (va_runV (As := []) (rest := []) ⟨hx, hb, hml, hown, hts⟩ (met_X1_thrown l D cI cJ bd u2) (cwV 0 hts gL_law_X1_thrown rfl rfl rfl (by decide +kernel) ⟨Nat.le_of_ble_eq_true rfl, Nat.le_of_ble_eq_true rfl⟩) ⟨fun a U g mk q => ⟨q.1, b1R_calling q.2⟩, va_recv hK hI.2.1 (ci := 1) (q0 := 0) rfl rfl, fun U hU hW => ⟨rfl, b1R_at hI.2.1 hK hU hW⟩⟩ rfl rfl hl.1 rfl (lv_room (Nat.le_of_ble_eq_true rfl)) dL_law_1167 ⟨by show _ ≤ 3102; omega, by show _ ≤ 118996; omega⟩) hS (fun q _ h => h.elim) (fun q h => h.elim) (fun r3 u3 t H1 locs ht hvm hw3 hB hz hk2 hS => ?_)
  have hI := lwI_k hI hk2
  generalize H1 = H at hI hS ⊢
  have hr3 : r3 = r := by rw [← hw3]; exact hg1
  refine W.widen (k := k + 6) (n := n + 36) (by omega) (by omega) ?_
  refine lv_iload hx hb dL_law_1170 (lv_at hl 1 rfl) ?_
  refine lv_icmp_eq (tgt := 1177) hx hb dL_law_1172 (by decide) (fun cz => ?_) (fun cz => absurd hr3 cz)
  refine lv_iload hx hb dL_law_1177 (lv_at hl 1 rfl) ?_
  have kk : W p l e room_1 s m #[Value.ref b] below meth c H locs (k + 6) (n + 36) (lw_Z below #[Value.ref b] s) (F0 m 1194 ls []) := by
    refine lv_goto (tgt := 2318) hx hb dL_law_1194 (by decide) ?_
    exact K _ _ _ _ _ hI hR hS _ (lv_sub hl [2, 3, 4, 5, 6] rfl)
  refine lv_if_ne (tgt := 1194) hx hb dL_law_1179 (by decide) (fun cz2 => kk) (fun cz2 => ?_)
  refine lv_aload_n hx hb dL_law_1182 rfl (lv_at hl 3 rfl) ?_
  refine lv_iconst (v := 0) hx hb dL_law_1183 (by decide) ?_
  refine va_lald hx hb hK hI.1 8 1 rfl rfl in01 dL_law_1184 ?_
  refine lv_iload hx hb dL_law_1185 (lv_at hl 0 rfl) ?_
  refine lv_i2l hx hb dL_law_1187 rfl ?_
  refine W.lcmp hx hb dL_law_1188 ?_
  refine lv_if_eq (tgt := 1194) hx hb dL_law_1189 (by decide) (fun cz3 => kk) (fun cz3 => absurd ((lg_cmp_eq _ _).mpr (hg3 cz2)) cz3)

set_option maxHeartbeats 4000000 in
set_option maxRecDepth 100000 in
theorem lw_c17 {p : Program} {l : Launch} {e : Env} {s : State} {m : MethodId} {below : List Frame} {meth : Method} {c : Code} {b L : Nat} {xs : Nat → Int32} (hfl : l.stackTraces = false) (hL : L ≤ 2048) (C0 : lw_At p s m meth c b L xs) {D : va_G} {cI cJ : ClassId} {ad : Nat → Nat} {ao : Nat} {bd : Nat → Nat} (hK : va_K D pCl (pTy cI cJ) s) (hE : xE (fun q : Nat => s.heap.size ≤ q) s s.heap) (hNc : xN s) (H : Heap) (locs : List Loc) (S : pS) (T : pT) (o : Nat → Int64) (hI : lwI D cI cJ s ad ao bd S o T H) (hR : rel S T) (hS : va_S (fun q : Nat => s.heap.size ≤ q) s.heap H locs) (i : Nat) (hi : i + 4 ≤ L) (x4 : Int32) (hx4 : x4 = nI i) (k n : Nat) (hk : k + 6 ≤ 3102) (hn : n + 36 ≤ 118996) (ls : Array Slot) (hl : lv_has ls 8 [(4, .int x4), (3, .ref ao), (2, .ref (bd 0)), (1, .ref (ad 0)), (0, .ref b)])
    (K : ∀ (H : Heap) (locs : List Loc) (S : pS) (T : pT) (o : Nat → Int64), lwI D cI cJ s ad ao bd S o T H → rel S T → va_S (fun q : Nat => s.heap.size ≤ q) s.heap H locs → ∀ ls : Array Slot, lv_has ls 8 [(4, .int x4), (3, .ref ao), (2, .ref (bd 0)), (1, .ref (ad 0)), (0, .ref b)] → W p l e room_1 s m #[Value.ref b] below meth c H locs (k + 6) (n + 36) (lw_Z below #[Value.ref b] s) (F0 m 2318 ls [])) : W p l e room_1 s m #[Value.ref b] below meth c H locs k n (lw_Z below #[Value.ref b] s) (F0 m 1197 ls []) := by
  obtain ⟨hx, hb, hr, hml, hown, hts, hX, hbl, hlocks, hgv⟩ := C0
  have hb : c.code = cL_law := hb
  have hown : s.vm.findClass RL = some m.cls := hown
  have hts : ∀ w ∈ wsL_law, w.before #[Value.ref b] s = true := fun w hw => hts w (wsL_law_in w hw)
  have hbA : ¬ (fun q : Nat => s.heap.size ≤ q) b := Nat.not_le.mpr hbl
  obtain ⟨hi0, hi1, hi2, hi3⟩ := lw_n hL hi hx4
  refine lv_aload_n hx hb dL_law_1197 rfl (lv_at hl 3 rfl) ?_
  refine lv_aload_n hx hb dL_law_1198 rfl (lv_at hl 4 rfl) ?_
  refine lv_iload hx hb dL_law_1199 (lv_at hl 0 rfl) ?_
  refine lv_iconst (v := 1) hx hb dL_law_1201 (by decide) ?_
  refine lv_iadd hx hb dL_law_1202 ?_
  refine va_sld hx hb hX hbl hbA hS hi1 dL_law_1203 ?_
  refine lv_aload_n hx hb dL_law_1204 rfl (lv_at hl 4 rfl) ?_
  refine lv_iload hx hb dL_law_1205 (lv_at hl 0 rfl) ?_
  refine lv_iconst (v := 2) hx hb dL_law_1207 (by decide) ?_
  refine lv_iadd hx hb dL_law_1208 ?_
  refine va_sld hx hb hX hbl hbA hS hi2 dL_law_1209 ?_
  refine lv_aload_n hx hb dL_law_1210 rfl (lv_at hl 1 rfl) ?_
  refine va_calli (vx_runSW (As := [.ref (ad 0), .int (xs (x4 + 1).toNatClampNeg), .int (xs (x4 + 2).toNatClampNeg), .ref ao]) (rest := []) ⟨hx, hb, hml, hown, hts⟩ (met_L_digits l hfl D cI cJ ad ao (lwX s bd) S o ((xs (x4 + 1).toNatClampNeg)) ((xs (x4 + 2).toNatClampNeg))) (vx_cwSW 4 hts gL_law_L_digits rfl rfl rfl (by decide +kernel) ⟨Nat.le_of_ble_eq_true rfl, Nat.le_of_ble_eq_true rfl⟩) ⟨fun a U g mk q => ⟨q.1, q.2.1, va_K.moved (u := U) (U := U.calling g mk a) (Vm.Alike.refl U.vm) q.2.2.1, q.2.2.2.1, xE_calling q.2.2.2.2.1, xN_calling q.2.2.2.2.2⟩, fun U hU hW => ⟨rfl, by rw [hU]; exact hI.1, va_K.moved hW.alike hK, hI.2.2.1, xE_narrow (xE_at hE hS hU hW) (fun q h => h.elim), xN_at hNc hW⟩⟩ rfl rfl hl.1 rfl (lv_room (Nat.le_of_ble_eq_true rfl)) dL_law_1211 ⟨by show _ ≤ 3102; omega, by show _ ≤ 118996; omega⟩) hS (fun q _ h => h.1) (fun q h => h.1) (fun r u t H1 locs ht hvm hw hB hz hk1 hS => ?_)
  rw [ht] at hB
  have hI := lwI_x hI hB hk1
  generalize H1 = H at hI hS ⊢
  refine lv_istore (lv' := [(5, .int r), (4, .int x4), (3, .ref ao), (2, .ref (bd 0)), (1, .ref (ad 0)), (0, .ref b)]) hx hb dL_law_1214 hl (by decide) rfl (fun ls hl => ?_)
  refine lv_aload_n hx hb dL_law_1216 rfl (lv_at hl 3 rfl) ?_
  refine lv_aload_n hx hb dL_law_1217 rfl (lv_at hl 5 rfl) ?_
  refine lv_iload hx hb dL_law_1218 (lv_at hl 1 rfl) ?_
  refine lv_iconst (v := 1) hx hb dL_law_1220 (by decide) ?_
  refine lv_iadd hx hb dL_law_1221 ?_
  refine va_sld hx hb hX hbl hbA hS hi1 dL_law_1222 ?_
  refine lv_aload_n hx hb dL_law_1223 rfl (lv_at hl 5 rfl) ?_
  refine lv_iload hx hb dL_law_1224 (lv_at hl 1 rfl) ?_
  refine lv_iconst (v := 2) hx hb dL_law_1226 (by decide) ?_
  refine lv_iadd hx hb dL_law_1227 ?_
  refine va_sld hx hb hX hbl hbA hS hi2 dL_law_1228 ?_
  refine va_calli (va_runV (As := [.int (xs (x4 + 1).toNatClampNeg), .int (xs (x4 + 2).toNatClampNeg)]) (rest := []) ⟨hx, hb, hml, hown, hts⟩ (met_X1_digits l D cI cJ bd (lwM s ad ao) T ((xs (x4 + 1).toNatClampNeg)) ((xs (x4 + 2).toNatClampNeg))) (cwV 2 hts gL_law_X1_digits rfl rfl rfl (by decide +kernel) ⟨Nat.le_of_ble_eq_true rfl, Nat.le_of_ble_eq_true rfl⟩) ⟨fun a U g mk q => ⟨q.1, b1R_calling q.2.1, q.2.2⟩, va_recv hK hI.2.1 (ci := 1) (q0 := 0) rfl rfl, fun U hU hW => ⟨rfl, b1R_at hI.2.1 hK hU hW, hI.2.2.2⟩⟩ rfl rfl hl.1 rfl (lv_room (Nat.le_of_ble_eq_true rfl)) dL_law_1229 ⟨by show _ ≤ 3102; omega, by show _ ≤ 118996; omega⟩) hS (fun q _ h => h.1) (fun q h => h.1) (fun r2 u2 t H1 locs ht hvm hw2 hB hz hk2 hS => ?_)
  obtain ⟨hP1, hD1⟩ := hB
  rw [ht] at hP1
  have hI := lwI_m hI hP1 hD1 hk2
  generalize H1 = H at hI hS ⊢
  have hg := ag_digits hR o ((xs (x4 + 1).toNatClampNeg)) ((xs (x4 + 2).toNatClampNeg))
  rw [hw, hw2] at hg
  obtain ⟨hg1, hR, hg3⟩ := hg
  refine lv_istore (lv' := [(6, .int r2), (5, .int r), (4, .int x4), (3, .ref ao), (2, .ref (bd 0)), (1, .ref (ad 0)), (0, .ref b)]) hx hb dL_law_1232 hl (by decide) rfl (fun ls hl => ?_)
  refine lv_aload_n hx hb dL_law_1234 rfl (lv_at hl 4 rfl) ?_
  refine va_calli (va_runV (As := []) (rest := []) ⟨hx, hb, hml, hown, hts⟩ (met_X1_thrown l D cI cJ bd u2) (cwV 0 hts gL_law_X1_thrown rfl rfl rfl (by decide +kernel) ⟨Nat.le_of_ble_eq_true rfl, Nat.le_of_ble_eq_true rfl⟩) ⟨fun a U g mk q => ⟨q.1, b1R_calling q.2⟩, va_recv hK hI.2.1 (ci := 1) (q0 := 0) rfl rfl, fun U hU hW => ⟨rfl, b1R_at hI.2.1 hK hU hW⟩⟩ rfl rfl hl.1 rfl (lv_room (Nat.le_of_ble_eq_true rfl)) dL_law_1235 ⟨by show _ ≤ 3102; omega, by show _ ≤ 118996; omega⟩) hS (fun q _ h => h.elim) (fun q h => h.elim) (fun r3 u3 t H1 locs ht hvm hw3 hB hz hk2 hS => ?_)
  have hI := lwI_k hI hk2
  generalize H1 = H at hI hS ⊢
  have hr3 : r3 = r := by rw [← hw3]; exact hg1
  refine W.widen (k := k + 6) (n := n + 36) (by omega) (by omega) ?_
  refine lv_iload hx hb dL_law_1238 (lv_at hl 1 rfl) ?_
  refine lv_icmp_eq (tgt := 1245) hx hb dL_law_1240 (by decide) (fun cz => ?_) (fun cz => absurd hr3 cz)
  refine lv_iload hx hb dL_law_1245 (lv_at hl 1 rfl) ?_
  have kk : W p l e room_1 s m #[Value.ref b] below meth c H locs (k + 6) (n + 36) (lw_Z below #[Value.ref b] s) (F0 m 1262 ls []) := by
    refine lv_goto (tgt := 2318) hx hb dL_law_1262 (by decide) ?_
    exact K _ _ _ _ _ hI hR hS _ (lv_sub hl [2, 3, 4, 5, 6] rfl)
  refine lv_if_ne (tgt := 1262) hx hb dL_law_1247 (by decide) (fun cz2 => kk) (fun cz2 => ?_)
  refine lv_aload_n hx hb dL_law_1250 rfl (lv_at hl 3 rfl) ?_
  refine lv_iconst (v := 0) hx hb dL_law_1251 (by decide) ?_
  refine va_lald hx hb hK hI.1 8 1 rfl rfl in01 dL_law_1252 ?_
  refine lv_iload hx hb dL_law_1253 (lv_at hl 0 rfl) ?_
  refine lv_i2l hx hb dL_law_1255 rfl ?_
  refine W.lcmp hx hb dL_law_1256 ?_
  refine lv_if_eq (tgt := 1262) hx hb dL_law_1257 (by decide) (fun cz3 => kk) (fun cz3 => absurd ((lg_cmp_eq _ _).mpr (hg3 cz2)) cz3)

set_option maxHeartbeats 4000000 in
set_option maxRecDepth 100000 in
theorem lw_c18 {p : Program} {l : Launch} {e : Env} {s : State} {m : MethodId} {below : List Frame} {meth : Method} {c : Code} {b L : Nat} {xs : Nat → Int32} (hfl : l.stackTraces = false) (hL : L ≤ 2048) (C0 : lw_At p s m meth c b L xs) {D : va_G} {cI cJ : ClassId} {ad : Nat → Nat} {ao : Nat} {bd : Nat → Nat} (hK : va_K D pCl (pTy cI cJ) s) (hE : xE (fun q : Nat => s.heap.size ≤ q) s s.heap) (hNc : xN s) (H : Heap) (locs : List Loc) (S : pS) (T : pT) (o : Nat → Int64) (hI : lwI D cI cJ s ad ao bd S o T H) (hR : rel S T) (hS : va_S (fun q : Nat => s.heap.size ≤ q) s.heap H locs) (i : Nat) (hi : i + 4 ≤ L) (x4 : Int32) (hx4 : x4 = nI i) (k n : Nat) (hk : k + 6 ≤ 3102) (hn : n + 36 ≤ 118996) (ls : Array Slot) (hl : lv_has ls 8 [(4, .int x4), (3, .ref ao), (2, .ref (bd 0)), (1, .ref (ad 0)), (0, .ref b)])
    (K : ∀ (H : Heap) (locs : List Loc) (S : pS) (T : pT) (o : Nat → Int64), lwI D cI cJ s ad ao bd S o T H → rel S T → va_S (fun q : Nat => s.heap.size ≤ q) s.heap H locs → ∀ ls : Array Slot, lv_has ls 8 [(4, .int x4), (3, .ref ao), (2, .ref (bd 0)), (1, .ref (ad 0)), (0, .ref b)] → W p l e room_1 s m #[Value.ref b] below meth c H locs (k + 6) (n + 36) (lw_Z below #[Value.ref b] s) (F0 m 2318 ls [])) : W p l e room_1 s m #[Value.ref b] below meth c H locs k n (lw_Z below #[Value.ref b] s) (F0 m 1265 ls []) := by
  obtain ⟨hx, hb, hr, hml, hown, hts, hX, hbl, hlocks, hgv⟩ := C0
  have hb : c.code = cL_law := hb
  have hown : s.vm.findClass RL = some m.cls := hown
  have hts : ∀ w ∈ wsL_law, w.before #[Value.ref b] s = true := fun w hw => hts w (wsL_law_in w hw)
  have hbA : ¬ (fun q : Nat => s.heap.size ≤ q) b := Nat.not_le.mpr hbl
  obtain ⟨hi0, hi1, hi2, hi3⟩ := lw_n hL hi hx4
  refine lv_aload_n hx hb dL_law_1265 rfl (lv_at hl 3 rfl) ?_
  refine lv_aload_n hx hb dL_law_1266 rfl (lv_at hl 4 rfl) ?_
  refine lv_iload hx hb dL_law_1267 (lv_at hl 0 rfl) ?_
  refine lv_iconst (v := 1) hx hb dL_law_1269 (by decide) ?_
  refine lv_iadd hx hb dL_law_1270 ?_
  refine va_sld hx hb hX hbl hbA hS hi1 dL_law_1271 ?_
  refine lv_aload_n hx hb dL_law_1272 rfl (lv_at hl 4 rfl) ?_
  refine lv_iload hx hb dL_law_1273 (lv_at hl 0 rfl) ?_
  refine lv_iconst (v := 2) hx hb dL_law_1275 (by decide) ?_
  refine lv_iadd hx hb dL_law_1276 ?_
  refine va_sld hx hb hX hbl hbA hS hi2 dL_law_1277 ?_
  refine lv_aload_n hx hb dL_law_1278 rfl (lv_at hl 4 rfl) ?_
  refine lv_iload hx hb dL_law_1279 (lv_at hl 0 rfl) ?_
  refine lv_iconst (v := 3) hx hb dL_law_1281 (by decide) ?_
  refine lv_iadd hx hb dL_law_1282 ?_
  refine va_sld hx hb hX hbl hbA hS hi3 dL_law_1283 ?_
  refine lv_aload_n hx hb dL_law_1284 rfl (lv_at hl 1 rfl) ?_
  refine va_calli (vx_runSW (As := [.ref (ad 0), .int (xs (x4 + 1).toNatClampNeg), .int (xs (x4 + 2).toNatClampNeg), .int (xs (x4 + 3).toNatClampNeg), .ref ao]) (rest := []) ⟨hx, hb, hml, hown, hts⟩ (met_L_digit l hfl D cI cJ ad ao (lwX s bd) S o ((xs (x4 + 1).toNatClampNeg)) ((xs (x4 + 2).toNatClampNeg)) ((xs (x4 + 3).toNatClampNeg))) (vx_cwSW 5 hts gL_law_L_digit rfl rfl rfl (by decide +kernel) ⟨Nat.le_of_ble_eq_true rfl, Nat.le_of_ble_eq_true rfl⟩) ⟨fun a U g mk q => ⟨q.1, q.2.1, va_K.moved (u := U) (U := U.calling g mk a) (Vm.Alike.refl U.vm) q.2.2.1, q.2.2.2.1, xE_calling q.2.2.2.2.1, xN_calling q.2.2.2.2.2⟩, fun U hU hW => ⟨rfl, by rw [hU]; exact hI.1, va_K.moved hW.alike hK, hI.2.2.1, xE_narrow (xE_at hE hS hU hW) (fun q h => h.elim), xN_at hNc hW⟩⟩ rfl rfl hl.1 rfl (lv_room (Nat.le_of_ble_eq_true rfl)) dL_law_1285 ⟨by show _ ≤ 3102; omega, by show _ ≤ 118996; omega⟩) hS (fun q _ h => h.1) (fun q h => h.1) (fun r u t H1 locs ht hvm hw hB hz hk1 hS => ?_)
  rw [ht] at hB
  have hI := lwI_x hI hB hk1
  generalize H1 = H at hI hS ⊢
  refine lv_istore (lv' := [(5, .int r), (4, .int x4), (3, .ref ao), (2, .ref (bd 0)), (1, .ref (ad 0)), (0, .ref b)]) hx hb dL_law_1288 hl (by decide) rfl (fun ls hl => ?_)
  refine lv_aload_n hx hb dL_law_1290 rfl (lv_at hl 3 rfl) ?_
  refine lv_aload_n hx hb dL_law_1291 rfl (lv_at hl 5 rfl) ?_
  refine lv_iload hx hb dL_law_1292 (lv_at hl 1 rfl) ?_
  refine lv_iconst (v := 1) hx hb dL_law_1294 (by decide) ?_
  refine lv_iadd hx hb dL_law_1295 ?_
  refine va_sld hx hb hX hbl hbA hS hi1 dL_law_1296 ?_
  refine lv_aload_n hx hb dL_law_1297 rfl (lv_at hl 5 rfl) ?_
  refine lv_iload hx hb dL_law_1298 (lv_at hl 1 rfl) ?_
  refine lv_iconst (v := 2) hx hb dL_law_1300 (by decide) ?_
  refine lv_iadd hx hb dL_law_1301 ?_
  refine va_sld hx hb hX hbl hbA hS hi2 dL_law_1302 ?_
  refine lv_aload_n hx hb dL_law_1303 rfl (lv_at hl 5 rfl) ?_
  refine lv_iload hx hb dL_law_1304 (lv_at hl 1 rfl) ?_
  refine lv_iconst (v := 3) hx hb dL_law_1306 (by decide) ?_
  refine lv_iadd hx hb dL_law_1307 ?_
  refine va_sld hx hb hX hbl hbA hS hi3 dL_law_1308 ?_
  refine va_calli (va_runV (As := [.int (xs (x4 + 1).toNatClampNeg), .int (xs (x4 + 2).toNatClampNeg), .int (xs (x4 + 3).toNatClampNeg)]) (rest := []) ⟨hx, hb, hml, hown, hts⟩ (met_X1_digit l D cI cJ bd (lwM s ad ao) T ((xs (x4 + 1).toNatClampNeg)) ((xs (x4 + 2).toNatClampNeg)) ((xs (x4 + 3).toNatClampNeg))) (cwV 3 hts gL_law_X1_digit rfl rfl rfl (by decide +kernel) ⟨Nat.le_of_ble_eq_true rfl, Nat.le_of_ble_eq_true rfl⟩) ⟨fun a U g mk q => ⟨q.1, b1R_calling q.2.1, q.2.2⟩, va_recv hK hI.2.1 (ci := 1) (q0 := 0) rfl rfl, fun U hU hW => ⟨rfl, b1R_at hI.2.1 hK hU hW, hI.2.2.2⟩⟩ rfl rfl hl.1 rfl (lv_room (Nat.le_of_ble_eq_true rfl)) dL_law_1309 ⟨by show _ ≤ 3102; omega, by show _ ≤ 118996; omega⟩) hS (fun q _ h => h.1) (fun q h => h.1) (fun r2 u2 t H1 locs ht hvm hw2 hB hz hk2 hS => ?_)
  obtain ⟨hP1, hD1⟩ := hB
  rw [ht] at hP1
  have hI := lwI_m hI hP1 hD1 hk2
  generalize H1 = H at hI hS ⊢
  have hg := ag_digit hR o ((xs (x4 + 1).toNatClampNeg)) ((xs (x4 + 2).toNatClampNeg)) ((xs (x4 + 3).toNatClampNeg))
  rw [hw, hw2] at hg
  obtain ⟨hg1, hR, hg3⟩ := hg
  refine lv_istore (lv' := [(6, .int r2), (5, .int r), (4, .int x4), (3, .ref ao), (2, .ref (bd 0)), (1, .ref (ad 0)), (0, .ref b)]) hx hb dL_law_1312 hl (by decide) rfl (fun ls hl => ?_)
  refine lv_aload_n hx hb dL_law_1314 rfl (lv_at hl 4 rfl) ?_
  refine va_calli (va_runV (As := []) (rest := []) ⟨hx, hb, hml, hown, hts⟩ (met_X1_thrown l D cI cJ bd u2) (cwV 0 hts gL_law_X1_thrown rfl rfl rfl (by decide +kernel) ⟨Nat.le_of_ble_eq_true rfl, Nat.le_of_ble_eq_true rfl⟩) ⟨fun a U g mk q => ⟨q.1, b1R_calling q.2⟩, va_recv hK hI.2.1 (ci := 1) (q0 := 0) rfl rfl, fun U hU hW => ⟨rfl, b1R_at hI.2.1 hK hU hW⟩⟩ rfl rfl hl.1 rfl (lv_room (Nat.le_of_ble_eq_true rfl)) dL_law_1315 ⟨by show _ ≤ 3102; omega, by show _ ≤ 118996; omega⟩) hS (fun q _ h => h.elim) (fun q h => h.elim) (fun r3 u3 t H1 locs ht hvm hw3 hB hz hk2 hS => ?_)
  have hI := lwI_k hI hk2
  generalize H1 = H at hI hS ⊢
  have hr3 : r3 = r := by rw [← hw3]; exact hg1
  refine W.widen (k := k + 6) (n := n + 36) (by omega) (by omega) ?_
  refine lv_iload hx hb dL_law_1318 (lv_at hl 1 rfl) ?_
  refine lv_icmp_eq (tgt := 1325) hx hb dL_law_1320 (by decide) (fun cz => ?_) (fun cz => absurd hr3 cz)
  refine lv_iload hx hb dL_law_1325 (lv_at hl 1 rfl) ?_
  have kk : W p l e room_1 s m #[Value.ref b] below meth c H locs (k + 6) (n + 36) (lw_Z below #[Value.ref b] s) (F0 m 1342 ls []) := by
    refine lv_goto (tgt := 2318) hx hb dL_law_1342 (by decide) ?_
    exact K _ _ _ _ _ hI hR hS _ (lv_sub hl [2, 3, 4, 5, 6] rfl)
  refine lv_if_ne (tgt := 1342) hx hb dL_law_1327 (by decide) (fun cz2 => kk) (fun cz2 => ?_)
  refine lv_aload_n hx hb dL_law_1330 rfl (lv_at hl 3 rfl) ?_
  refine lv_iconst (v := 0) hx hb dL_law_1331 (by decide) ?_
  refine va_lald hx hb hK hI.1 8 1 rfl rfl in01 dL_law_1332 ?_
  refine lv_iload hx hb dL_law_1333 (lv_at hl 0 rfl) ?_
  refine lv_i2l hx hb dL_law_1335 rfl ?_
  refine W.lcmp hx hb dL_law_1336 ?_
  refine lv_if_eq (tgt := 1342) hx hb dL_law_1337 (by decide) (fun cz3 => kk) (fun cz3 => absurd ((lg_cmp_eq _ _).mpr (hg3 cz2)) cz3)

set_option maxHeartbeats 4000000 in
set_option maxRecDepth 100000 in
theorem lw_c19 {p : Program} {l : Launch} {e : Env} {s : State} {m : MethodId} {below : List Frame} {meth : Method} {c : Code} {b L : Nat} {xs : Nat → Int32} (hfl : l.stackTraces = false) (hL : L ≤ 2048) (C0 : lw_At p s m meth c b L xs) {D : va_G} {cI cJ : ClassId} {ad : Nat → Nat} {ao : Nat} {bd : Nat → Nat} (hK : va_K D pCl (pTy cI cJ) s) (hE : xE (fun q : Nat => s.heap.size ≤ q) s s.heap) (hNc : xN s) (H : Heap) (locs : List Loc) (S : pS) (T : pT) (o : Nat → Int64) (hI : lwI D cI cJ s ad ao bd S o T H) (hR : rel S T) (hS : va_S (fun q : Nat => s.heap.size ≤ q) s.heap H locs) (i : Nat) (hi : i + 4 ≤ L) (x4 : Int32) (hx4 : x4 = nI i) (k n : Nat) (hk : k + 6 ≤ 3102) (hn : n + 36 ≤ 118996) (ls : Array Slot) (hl : lv_has ls 8 [(4, .int x4), (3, .ref ao), (2, .ref (bd 0)), (1, .ref (ad 0)), (0, .ref b)])
    (K : ∀ (H : Heap) (locs : List Loc) (S : pS) (T : pT) (o : Nat → Int64), lwI D cI cJ s ad ao bd S o T H → rel S T → va_S (fun q : Nat => s.heap.size ≤ q) s.heap H locs → ∀ ls : Array Slot, lv_has ls 8 [(4, .int x4), (3, .ref ao), (2, .ref (bd 0)), (1, .ref (ad 0)), (0, .ref b)] → W p l e room_1 s m #[Value.ref b] below meth c H locs (k + 6) (n + 36) (lw_Z below #[Value.ref b] s) (F0 m 2318 ls [])) : W p l e room_1 s m #[Value.ref b] below meth c H locs k n (lw_Z below #[Value.ref b] s) (F0 m 1345 ls []) := by
  obtain ⟨hx, hb, hr, hml, hown, hts, hX, hbl, hlocks, hgv⟩ := C0
  have hb : c.code = cL_law := hb
  have hown : s.vm.findClass RL = some m.cls := hown
  have hts : ∀ w ∈ wsL_law, w.before #[Value.ref b] s = true := fun w hw => hts w (wsL_law_in w hw)
  have hbA : ¬ (fun q : Nat => s.heap.size ≤ q) b := Nat.not_le.mpr hbl
  obtain ⟨hi0, hi1, hi2, hi3⟩ := lw_n hL hi hx4
  refine lv_aload_n hx hb dL_law_1345 rfl (lv_at hl 3 rfl) ?_
  refine lv_aload_n hx hb dL_law_1346 rfl (lv_at hl 4 rfl) ?_
  refine lv_iload hx hb dL_law_1347 (lv_at hl 0 rfl) ?_
  refine lv_iconst (v := 1) hx hb dL_law_1349 (by decide) ?_
  refine lv_iadd hx hb dL_law_1350 ?_
  refine va_sld hx hb hX hbl hbA hS hi1 dL_law_1351 ?_
  refine lv_aload_n hx hb dL_law_1352 rfl (lv_at hl 4 rfl) ?_
  refine lv_iload hx hb dL_law_1353 (lv_at hl 0 rfl) ?_
  refine lv_iconst (v := 2) hx hb dL_law_1355 (by decide) ?_
  refine lv_iadd hx hb dL_law_1356 ?_
  refine va_sld hx hb hX hbl hbA hS hi2 dL_law_1357 ?_
  refine lv_aload_n hx hb dL_law_1358 rfl (lv_at hl 1 rfl) ?_
  refine va_calli (vx_runSW (As := [.ref (ad 0), .int (xs (x4 + 1).toNatClampNeg), .int (xs (x4 + 2).toNatClampNeg), .ref ao]) (rest := []) ⟨hx, hb, hml, hown, hts⟩ (met_L_root l hfl D cI cJ ad ao (lwX s bd) S o ((xs (x4 + 1).toNatClampNeg)) ((xs (x4 + 2).toNatClampNeg))) (vx_cwSW 4 hts gL_law_L_root rfl rfl rfl (by decide +kernel) ⟨Nat.le_of_ble_eq_true rfl, Nat.le_of_ble_eq_true rfl⟩) ⟨fun a U g mk q => ⟨q.1, q.2.1, va_K.moved (u := U) (U := U.calling g mk a) (Vm.Alike.refl U.vm) q.2.2.1, q.2.2.2.1, xE_calling q.2.2.2.2.1, xN_calling q.2.2.2.2.2⟩, fun U hU hW => ⟨rfl, by rw [hU]; exact hI.1, va_K.moved hW.alike hK, hI.2.2.1, xE_narrow (xE_at hE hS hU hW) (fun q h => h.elim), xN_at hNc hW⟩⟩ rfl rfl hl.1 rfl (lv_room (Nat.le_of_ble_eq_true rfl)) dL_law_1359 ⟨by show _ ≤ 3102; omega, by show _ ≤ 118996; omega⟩) hS (fun q _ h => h.1) (fun q h => h.1) (fun r u t H1 locs ht hvm hw hB hz hk1 hS => ?_)
  rw [ht] at hB
  have hI := lwI_x hI hB hk1
  generalize H1 = H at hI hS ⊢
  refine lv_istore (lv' := [(5, .int r), (4, .int x4), (3, .ref ao), (2, .ref (bd 0)), (1, .ref (ad 0)), (0, .ref b)]) hx hb dL_law_1362 hl (by decide) rfl (fun ls hl => ?_)
  refine lv_aload_n hx hb dL_law_1364 rfl (lv_at hl 3 rfl) ?_
  refine lv_aload_n hx hb dL_law_1365 rfl (lv_at hl 5 rfl) ?_
  refine lv_iload hx hb dL_law_1366 (lv_at hl 1 rfl) ?_
  refine lv_iconst (v := 1) hx hb dL_law_1368 (by decide) ?_
  refine lv_iadd hx hb dL_law_1369 ?_
  refine va_sld hx hb hX hbl hbA hS hi1 dL_law_1370 ?_
  refine lv_aload_n hx hb dL_law_1371 rfl (lv_at hl 5 rfl) ?_
  refine lv_iload hx hb dL_law_1372 (lv_at hl 1 rfl) ?_
  refine lv_iconst (v := 2) hx hb dL_law_1374 (by decide) ?_
  refine lv_iadd hx hb dL_law_1375 ?_
  refine va_sld hx hb hX hbl hbA hS hi2 dL_law_1376 ?_
  refine va_calli (va_runV (As := [.int (xs (x4 + 1).toNatClampNeg), .int (xs (x4 + 2).toNatClampNeg)]) (rest := []) ⟨hx, hb, hml, hown, hts⟩ (met_X1_root l D cI cJ bd (lwM s ad ao) T ((xs (x4 + 1).toNatClampNeg)) ((xs (x4 + 2).toNatClampNeg))) (cwV 2 hts gL_law_X1_root rfl rfl rfl (by decide +kernel) ⟨Nat.le_of_ble_eq_true rfl, Nat.le_of_ble_eq_true rfl⟩) ⟨fun a U g mk q => ⟨q.1, b1R_calling q.2.1, q.2.2⟩, va_recv hK hI.2.1 (ci := 1) (q0 := 0) rfl rfl, fun U hU hW => ⟨rfl, b1R_at hI.2.1 hK hU hW, hI.2.2.2⟩⟩ rfl rfl hl.1 rfl (lv_room (Nat.le_of_ble_eq_true rfl)) dL_law_1377 ⟨by show _ ≤ 3102; omega, by show _ ≤ 118996; omega⟩) hS (fun q _ h => h.1) (fun q h => h.1) (fun r2 u2 t H1 locs ht hvm hw2 hB hz hk2 hS => ?_)
  obtain ⟨hP1, hD1⟩ := hB
  rw [ht] at hP1
  have hI := lwI_m hI hP1 hD1 hk2
  generalize H1 = H at hI hS ⊢
  have hg := ag_root hR o ((xs (x4 + 1).toNatClampNeg)) ((xs (x4 + 2).toNatClampNeg))
  rw [hw, hw2] at hg
  obtain ⟨hg1, hR, hg3⟩ := hg
  refine lv_istore (lv' := [(6, .int r2), (5, .int r), (4, .int x4), (3, .ref ao), (2, .ref (bd 0)), (1, .ref (ad 0)), (0, .ref b)]) hx hb dL_law_1380 hl (by decide) rfl (fun ls hl => ?_)
  refine lv_aload_n hx hb dL_law_1382 rfl (lv_at hl 4 rfl) ?_
  refine va_calli (va_runV (As := []) (rest := []) ⟨hx, hb, hml, hown, hts⟩ (met_X1_thrown l D cI cJ bd u2) (cwV 0 hts gL_law_X1_thrown rfl rfl rfl (by decide +kernel) ⟨Nat.le_of_ble_eq_true rfl, Nat.le_of_ble_eq_true rfl⟩) ⟨fun a U g mk q => ⟨q.1, b1R_calling q.2⟩, va_recv hK hI.2.1 (ci := 1) (q0 := 0) rfl rfl, fun U hU hW => ⟨rfl, b1R_at hI.2.1 hK hU hW⟩⟩ rfl rfl hl.1 rfl (lv_room (Nat.le_of_ble_eq_true rfl)) dL_law_1383 ⟨by show _ ≤ 3102; omega, by show _ ≤ 118996; omega⟩) hS (fun q _ h => h.elim) (fun q h => h.elim) (fun r3 u3 t H1 locs ht hvm hw3 hB hz hk2 hS => ?_)
  have hI := lwI_k hI hk2
  generalize H1 = H at hI hS ⊢
  have hr3 : r3 = r := by rw [← hw3]; exact hg1
  refine W.widen (k := k + 6) (n := n + 36) (by omega) (by omega) ?_
  refine lv_iload hx hb dL_law_1386 (lv_at hl 1 rfl) ?_
  refine lv_icmp_eq (tgt := 1393) hx hb dL_law_1388 (by decide) (fun cz => ?_) (fun cz => absurd hr3 cz)
  refine lv_iload hx hb dL_law_1393 (lv_at hl 1 rfl) ?_
  have kk : W p l e room_1 s m #[Value.ref b] below meth c H locs (k + 6) (n + 36) (lw_Z below #[Value.ref b] s) (F0 m 1410 ls []) := by
    refine lv_goto (tgt := 2318) hx hb dL_law_1410 (by decide) ?_
    exact K _ _ _ _ _ hI hR hS _ (lv_sub hl [2, 3, 4, 5, 6] rfl)
  refine lv_if_ne (tgt := 1410) hx hb dL_law_1395 (by decide) (fun cz2 => kk) (fun cz2 => ?_)
  refine lv_aload_n hx hb dL_law_1398 rfl (lv_at hl 3 rfl) ?_
  refine lv_iconst (v := 0) hx hb dL_law_1399 (by decide) ?_
  refine va_lald hx hb hK hI.1 8 1 rfl rfl in01 dL_law_1400 ?_
  refine lv_iload hx hb dL_law_1401 (lv_at hl 0 rfl) ?_
  refine lv_i2l hx hb dL_law_1403 rfl ?_
  refine W.lcmp hx hb dL_law_1404 ?_
  refine lv_if_eq (tgt := 1410) hx hb dL_law_1405 (by decide) (fun cz3 => kk) (fun cz3 => absurd ((lg_cmp_eq _ _).mpr (hg3 cz2)) cz3)

set_option maxHeartbeats 4000000 in
set_option maxRecDepth 100000 in
theorem lw_c20 {p : Program} {l : Launch} {e : Env} {s : State} {m : MethodId} {below : List Frame} {meth : Method} {c : Code} {b L : Nat} {xs : Nat → Int32} (hfl : l.stackTraces = false) (hL : L ≤ 2048) (C0 : lw_At p s m meth c b L xs) {D : va_G} {cI cJ : ClassId} {ad : Nat → Nat} {ao : Nat} {bd : Nat → Nat} (hK : va_K D pCl (pTy cI cJ) s) (hE : xE (fun q : Nat => s.heap.size ≤ q) s s.heap) (hNc : xN s) (H : Heap) (locs : List Loc) (S : pS) (T : pT) (o : Nat → Int64) (hI : lwI D cI cJ s ad ao bd S o T H) (hR : rel S T) (hS : va_S (fun q : Nat => s.heap.size ≤ q) s.heap H locs) (i : Nat) (hi : i + 4 ≤ L) (x4 : Int32) (hx4 : x4 = nI i) (k n : Nat) (hk : k + 6 ≤ 3102) (hn : n + 36 ≤ 118996) (ls : Array Slot) (hl : lv_has ls 8 [(4, .int x4), (3, .ref ao), (2, .ref (bd 0)), (1, .ref (ad 0)), (0, .ref b)])
    (K : ∀ (H : Heap) (locs : List Loc) (S : pS) (T : pT) (o : Nat → Int64), lwI D cI cJ s ad ao bd S o T H → rel S T → va_S (fun q : Nat => s.heap.size ≤ q) s.heap H locs → ∀ ls : Array Slot, lv_has ls 8 [(4, .int x4), (3, .ref ao), (2, .ref (bd 0)), (1, .ref (ad 0)), (0, .ref b)] → W p l e room_1 s m #[Value.ref b] below meth c H locs (k + 6) (n + 36) (lw_Z below #[Value.ref b] s) (F0 m 2318 ls [])) : W p l e room_1 s m #[Value.ref b] below meth c H locs k n (lw_Z below #[Value.ref b] s) (F0 m 1413 ls []) := by
  obtain ⟨hx, hb, hr, hml, hown, hts, hX, hbl, hlocks, hgv⟩ := C0
  have hb : c.code = cL_law := hb
  have hown : s.vm.findClass RL = some m.cls := hown
  have hts : ∀ w ∈ wsL_law, w.before #[Value.ref b] s = true := fun w hw => hts w (wsL_law_in w hw)
  have hbA : ¬ (fun q : Nat => s.heap.size ≤ q) b := Nat.not_le.mpr hbl
  obtain ⟨hi0, hi1, hi2, hi3⟩ := lw_n hL hi hx4
  refine lv_aload_n hx hb dL_law_1413 rfl (lv_at hl 3 rfl) ?_
  refine lv_aload_n hx hb dL_law_1414 rfl (lv_at hl 4 rfl) ?_
  refine lv_iload hx hb dL_law_1415 (lv_at hl 0 rfl) ?_
  refine lv_iconst (v := 1) hx hb dL_law_1417 (by decide) ?_
  refine lv_iadd hx hb dL_law_1418 ?_
  refine va_sld hx hb hX hbl hbA hS hi1 dL_law_1419 ?_
  refine lv_aload_n hx hb dL_law_1420 rfl (lv_at hl 4 rfl) ?_
  refine lv_iload hx hb dL_law_1421 (lv_at hl 0 rfl) ?_
  refine lv_iconst (v := 2) hx hb dL_law_1423 (by decide) ?_
  refine lv_iadd hx hb dL_law_1424 ?_
  refine va_sld hx hb hX hbl hbA hS hi2 dL_law_1425 ?_
  refine lv_aload_n hx hb dL_law_1426 rfl (lv_at hl 1 rfl) ?_
  refine va_calli (vx_runSW (As := [.ref (ad 0), .int (xs (x4 + 1).toNatClampNeg), .int (xs (x4 + 2).toNatClampNeg), .ref ao]) (rest := []) ⟨hx, hb, hml, hown, hts⟩ (met_L_sum l hfl D cI cJ ad ao (lwX s bd) S o ((xs (x4 + 1).toNatClampNeg)) ((xs (x4 + 2).toNatClampNeg))) (vx_cwSW 4 hts gL_law_L_sum rfl rfl rfl (by decide +kernel) ⟨Nat.le_of_ble_eq_true rfl, Nat.le_of_ble_eq_true rfl⟩) ⟨fun a U g mk q => ⟨q.1, q.2.1, va_K.moved (u := U) (U := U.calling g mk a) (Vm.Alike.refl U.vm) q.2.2.1, q.2.2.2.1, xE_calling q.2.2.2.2.1, xN_calling q.2.2.2.2.2⟩, fun U hU hW => ⟨rfl, by rw [hU]; exact hI.1, va_K.moved hW.alike hK, hI.2.2.1, xE_narrow (xE_at hE hS hU hW) (fun q h => h.elim), xN_at hNc hW⟩⟩ rfl rfl hl.1 rfl (lv_room (Nat.le_of_ble_eq_true rfl)) dL_law_1427 ⟨by show _ ≤ 3102; omega, by show _ ≤ 118996; omega⟩) hS (fun q _ h => h.1) (fun q h => h.1) (fun r u t H1 locs ht hvm hw hB hz hk1 hS => ?_)
  rw [ht] at hB
  have hI := lwI_x hI hB hk1
  generalize H1 = H at hI hS ⊢
  refine lv_istore (lv' := [(5, .int r), (4, .int x4), (3, .ref ao), (2, .ref (bd 0)), (1, .ref (ad 0)), (0, .ref b)]) hx hb dL_law_1430 hl (by decide) rfl (fun ls hl => ?_)
  refine lv_aload_n hx hb dL_law_1432 rfl (lv_at hl 3 rfl) ?_
  refine lv_aload_n hx hb dL_law_1433 rfl (lv_at hl 5 rfl) ?_
  refine lv_iload hx hb dL_law_1434 (lv_at hl 1 rfl) ?_
  refine lv_iconst (v := 1) hx hb dL_law_1436 (by decide) ?_
  refine lv_iadd hx hb dL_law_1437 ?_
  refine va_sld hx hb hX hbl hbA hS hi1 dL_law_1438 ?_
  refine lv_aload_n hx hb dL_law_1439 rfl (lv_at hl 5 rfl) ?_
  refine lv_iload hx hb dL_law_1440 (lv_at hl 1 rfl) ?_
  refine lv_iconst (v := 2) hx hb dL_law_1442 (by decide) ?_
  refine lv_iadd hx hb dL_law_1443 ?_
  refine va_sld hx hb hX hbl hbA hS hi2 dL_law_1444 ?_
  refine va_calll (va_runV (As := [.int (xs (x4 + 1).toNatClampNeg), .int (xs (x4 + 2).toNatClampNeg)]) (rest := []) ⟨hx, hb, hml, hown, hts⟩ (met_X1_sum l D cI cJ bd (lwM s ad ao) T ((xs (x4 + 1).toNatClampNeg)) ((xs (x4 + 2).toNatClampNeg))) (cwV 2 hts gL_law_X1_sum rfl rfl rfl (by decide +kernel) ⟨Nat.le_of_ble_eq_true rfl, Nat.le_of_ble_eq_true rfl⟩) ⟨fun a U g mk q => ⟨q.1, b1R_calling q.2.1, q.2.2⟩, va_recv hK hI.2.1 (ci := 1) (q0 := 0) rfl rfl, fun U hU hW => ⟨rfl, b1R_at hI.2.1 hK hU hW, hI.2.2.2⟩⟩ rfl rfl hl.1 rfl (lv_room (Nat.le_of_ble_eq_true rfl)) dL_law_1445 ⟨by show _ ≤ 3102; omega, by show _ ≤ 118996; omega⟩) hS (fun q _ h => h.1) (fun q h => h.1) (fun r2 u2 t H1 locs ht hvm hw2 hB hz hk2 hS => ?_)
  obtain ⟨hP1, hD1⟩ := hB
  rw [ht] at hP1
  have hI := lwI_m hI hP1 hD1 hk2
  generalize H1 = H at hI hS ⊢
  have hg := ag_sum hR o ((xs (x4 + 1).toNatClampNeg)) ((xs (x4 + 2).toNatClampNeg))
  rw [hw, hw2] at hg
  obtain ⟨hg1, hR, hg3⟩ := hg
  refine lv_lstore (lv' := [(6, .long r2), (5, .int r), (4, .int x4), (3, .ref ao), (2, .ref (bd 0)), (1, .ref (ad 0)), (0, .ref b)]) hx hb dL_law_1448 hl (by decide) rfl (fun ls hl => ?_)
  refine lv_aload_n hx hb dL_law_1450 rfl (lv_at hl 4 rfl) ?_
  refine va_calli (va_runV (As := []) (rest := []) ⟨hx, hb, hml, hown, hts⟩ (met_X1_thrown l D cI cJ bd u2) (cwV 0 hts gL_law_X1_thrown rfl rfl rfl (by decide +kernel) ⟨Nat.le_of_ble_eq_true rfl, Nat.le_of_ble_eq_true rfl⟩) ⟨fun a U g mk q => ⟨q.1, b1R_calling q.2⟩, va_recv hK hI.2.1 (ci := 1) (q0 := 0) rfl rfl, fun U hU hW => ⟨rfl, b1R_at hI.2.1 hK hU hW⟩⟩ rfl rfl hl.1 rfl (lv_room (Nat.le_of_ble_eq_true rfl)) dL_law_1451 ⟨by show _ ≤ 3102; omega, by show _ ≤ 118996; omega⟩) hS (fun q _ h => h.elim) (fun q h => h.elim) (fun r3 u3 t H1 locs ht hvm hw3 hB hz hk2 hS => ?_)
  have hI := lwI_k hI hk2
  generalize H1 = H at hI hS ⊢
  have hr3 : r3 = r := by rw [← hw3]; exact hg1
  refine W.widen (k := k + 6) (n := n + 36) (by omega) (by omega) ?_
  refine lv_iload hx hb dL_law_1454 (lv_at hl 1 rfl) ?_
  refine lv_icmp_eq (tgt := 1461) hx hb dL_law_1456 (by decide) (fun cz => ?_) (fun cz => absurd hr3 cz)
  refine lv_iload hx hb dL_law_1461 (lv_at hl 1 rfl) ?_
  have kk : W p l e room_1 s m #[Value.ref b] below meth c H locs (k + 6) (n + 36) (lw_Z below #[Value.ref b] s) (F0 m 1477 ls []) := by
    refine lv_goto (tgt := 2318) hx hb dL_law_1477 (by decide) ?_
    exact K _ _ _ _ _ hI hR hS _ (lv_sub hl [2, 3, 4, 5, 6] rfl)
  refine lv_if_ne (tgt := 1477) hx hb dL_law_1463 (by decide) (fun cz2 => kk) (fun cz2 => ?_)
  refine lv_aload_n hx hb dL_law_1466 rfl (lv_at hl 3 rfl) ?_
  refine lv_iconst (v := 0) hx hb dL_law_1467 (by decide) ?_
  refine va_lald hx hb hK hI.1 8 1 rfl rfl in01 dL_law_1468 ?_
  refine lv_lload hx hb dL_law_1469 (lv_at hl 0 rfl) ?_
  refine W.lcmp hx hb dL_law_1471 ?_
  refine lv_if_eq (tgt := 1477) hx hb dL_law_1472 (by decide) (fun cz3 => kk) (fun cz3 => absurd ((lg_cmp_eq _ _).mpr (hg3 cz2)) cz3)

set_option maxHeartbeats 4000000 in
set_option maxRecDepth 100000 in
theorem lw_c21 {p : Program} {l : Launch} {e : Env} {s : State} {m : MethodId} {below : List Frame} {meth : Method} {c : Code} {b L : Nat} {xs : Nat → Int32} (hfl : l.stackTraces = false) (hL : L ≤ 2048) (C0 : lw_At p s m meth c b L xs) {D : va_G} {cI cJ : ClassId} {ad : Nat → Nat} {ao : Nat} {bd : Nat → Nat} (hK : va_K D pCl (pTy cI cJ) s) (hE : xE (fun q : Nat => s.heap.size ≤ q) s s.heap) (hNc : xN s) (H : Heap) (locs : List Loc) (S : pS) (T : pT) (o : Nat → Int64) (hI : lwI D cI cJ s ad ao bd S o T H) (hR : rel S T) (hS : va_S (fun q : Nat => s.heap.size ≤ q) s.heap H locs) (i : Nat) (hi : i + 4 ≤ L) (x4 : Int32) (hx4 : x4 = nI i) (k n : Nat) (hk : k + 6 ≤ 3102) (hn : n + 36 ≤ 118996) (ls : Array Slot) (hl : lv_has ls 8 [(4, .int x4), (3, .ref ao), (2, .ref (bd 0)), (1, .ref (ad 0)), (0, .ref b)])
    (K : ∀ (H : Heap) (locs : List Loc) (S : pS) (T : pT) (o : Nat → Int64), lwI D cI cJ s ad ao bd S o T H → rel S T → va_S (fun q : Nat => s.heap.size ≤ q) s.heap H locs → ∀ ls : Array Slot, lv_has ls 8 [(4, .int x4), (3, .ref ao), (2, .ref (bd 0)), (1, .ref (ad 0)), (0, .ref b)] → W p l e room_1 s m #[Value.ref b] below meth c H locs (k + 6) (n + 36) (lw_Z below #[Value.ref b] s) (F0 m 2318 ls [])) : W p l e room_1 s m #[Value.ref b] below meth c H locs k n (lw_Z below #[Value.ref b] s) (F0 m 1480 ls []) := by
  obtain ⟨hx, hb, hr, hml, hown, hts, hX, hbl, hlocks, hgv⟩ := C0
  have hb : c.code = cL_law := hb
  have hown : s.vm.findClass RL = some m.cls := hown
  have hts : ∀ w ∈ wsL_law, w.before #[Value.ref b] s = true := fun w hw => hts w (wsL_law_in w hw)
  have hbA : ¬ (fun q : Nat => s.heap.size ≤ q) b := Nat.not_le.mpr hbl
  obtain ⟨hi0, hi1, hi2, hi3⟩ := lw_n hL hi hx4
  refine lv_aload_n hx hb dL_law_1480 rfl (lv_at hl 3 rfl) ?_
  refine lv_aload_n hx hb dL_law_1481 rfl (lv_at hl 4 rfl) ?_
  refine lv_iload hx hb dL_law_1482 (lv_at hl 0 rfl) ?_
  refine lv_iconst (v := 1) hx hb dL_law_1484 (by decide) ?_
  refine lv_iadd hx hb dL_law_1485 ?_
  refine va_sld hx hb hX hbl hbA hS hi1 dL_law_1486 ?_
  refine lv_aload_n hx hb dL_law_1487 rfl (lv_at hl 4 rfl) ?_
  refine lv_iload hx hb dL_law_1488 (lv_at hl 0 rfl) ?_
  refine lv_iconst (v := 2) hx hb dL_law_1490 (by decide) ?_
  refine lv_iadd hx hb dL_law_1491 ?_
  refine va_sld hx hb hX hbl hbA hS hi2 dL_law_1492 ?_
  refine lv_aload_n hx hb dL_law_1493 rfl (lv_at hl 4 rfl) ?_
  refine lv_iload hx hb dL_law_1494 (lv_at hl 0 rfl) ?_
  refine lv_iconst (v := 3) hx hb dL_law_1496 (by decide) ?_
  refine lv_iadd hx hb dL_law_1497 ?_
  refine va_sld hx hb hX hbl hbA hS hi3 dL_law_1498 ?_
  refine lv_aload_n hx hb dL_law_1499 rfl (lv_at hl 1 rfl) ?_
  refine va_calli (vx_runSW (As := [.ref (ad 0), .int (xs (x4 + 1).toNatClampNeg), .int (xs (x4 + 2).toNatClampNeg), .int (xs (x4 + 3).toNatClampNeg), .ref ao]) (rest := []) ⟨hx, hb, hml, hown, hts⟩ (met_L_rest l hfl D cI cJ ad ao (lwX s bd) S o ((xs (x4 + 1).toNatClampNeg)) ((xs (x4 + 2).toNatClampNeg)) ((xs (x4 + 3).toNatClampNeg))) (vx_cwSW 5 hts gL_law_L_rest rfl rfl rfl (by decide +kernel) ⟨Nat.le_of_ble_eq_true rfl, Nat.le_of_ble_eq_true rfl⟩) ⟨fun a U g mk q => ⟨q.1, q.2.1, va_K.moved (u := U) (U := U.calling g mk a) (Vm.Alike.refl U.vm) q.2.2.1, q.2.2.2.1, xE_calling q.2.2.2.2.1, xN_calling q.2.2.2.2.2⟩, fun U hU hW => ⟨rfl, by rw [hU]; exact hI.1, va_K.moved hW.alike hK, hI.2.2.1, xE_narrow (xE_at hE hS hU hW) (fun q h => h.elim), xN_at hNc hW⟩⟩ rfl rfl hl.1 rfl (lv_room (Nat.le_of_ble_eq_true rfl)) dL_law_1500 ⟨by show _ ≤ 3102; omega, by show _ ≤ 118996; omega⟩) hS (fun q _ h => h.1) (fun q h => h.1) (fun r u t H1 locs ht hvm hw hB hz hk1 hS => ?_)
  rw [ht] at hB
  have hI := lwI_x hI hB hk1
  generalize H1 = H at hI hS ⊢
  refine lv_istore (lv' := [(5, .int r), (4, .int x4), (3, .ref ao), (2, .ref (bd 0)), (1, .ref (ad 0)), (0, .ref b)]) hx hb dL_law_1503 hl (by decide) rfl (fun ls hl => ?_)
  refine lv_aload_n hx hb dL_law_1505 rfl (lv_at hl 3 rfl) ?_
  refine lv_aload_n hx hb dL_law_1506 rfl (lv_at hl 5 rfl) ?_
  refine lv_iload hx hb dL_law_1507 (lv_at hl 1 rfl) ?_
  refine lv_iconst (v := 1) hx hb dL_law_1509 (by decide) ?_
  refine lv_iadd hx hb dL_law_1510 ?_
  refine va_sld hx hb hX hbl hbA hS hi1 dL_law_1511 ?_
  refine lv_aload_n hx hb dL_law_1512 rfl (lv_at hl 5 rfl) ?_
  refine lv_iload hx hb dL_law_1513 (lv_at hl 1 rfl) ?_
  refine lv_iconst (v := 2) hx hb dL_law_1515 (by decide) ?_
  refine lv_iadd hx hb dL_law_1516 ?_
  refine va_sld hx hb hX hbl hbA hS hi2 dL_law_1517 ?_
  refine lv_aload_n hx hb dL_law_1518 rfl (lv_at hl 5 rfl) ?_
  refine lv_iload hx hb dL_law_1519 (lv_at hl 1 rfl) ?_
  refine lv_iconst (v := 3) hx hb dL_law_1521 (by decide) ?_
  refine lv_iadd hx hb dL_law_1522 ?_
  refine va_sld hx hb hX hbl hbA hS hi3 dL_law_1523 ?_
  refine va_calli (va_runV (As := [.int (xs (x4 + 1).toNatClampNeg), .int (xs (x4 + 2).toNatClampNeg), .int (xs (x4 + 3).toNatClampNeg)]) (rest := []) ⟨hx, hb, hml, hown, hts⟩ (met_X1_rest l D cI cJ bd (lwM s ad ao) T ((xs (x4 + 1).toNatClampNeg)) ((xs (x4 + 2).toNatClampNeg)) ((xs (x4 + 3).toNatClampNeg))) (cwV 3 hts gL_law_X1_rest rfl rfl rfl (by decide +kernel) ⟨Nat.le_of_ble_eq_true rfl, Nat.le_of_ble_eq_true rfl⟩) ⟨fun a U g mk q => ⟨q.1, b1R_calling q.2.1, q.2.2⟩, va_recv hK hI.2.1 (ci := 1) (q0 := 0) rfl rfl, fun U hU hW => ⟨rfl, b1R_at hI.2.1 hK hU hW, hI.2.2.2⟩⟩ rfl rfl hl.1 rfl (lv_room (Nat.le_of_ble_eq_true rfl)) dL_law_1524 ⟨by show _ ≤ 3102; omega, by show _ ≤ 118996; omega⟩) hS (fun q _ h => h.1) (fun q h => h.1) (fun r2 u2 t H1 locs ht hvm hw2 hB hz hk2 hS => ?_)
  obtain ⟨hP1, hD1⟩ := hB
  rw [ht] at hP1
  have hI := lwI_m hI hP1 hD1 hk2
  generalize H1 = H at hI hS ⊢
  have hg := ag_rest hR o ((xs (x4 + 1).toNatClampNeg)) ((xs (x4 + 2).toNatClampNeg)) ((xs (x4 + 3).toNatClampNeg))
  rw [hw, hw2] at hg
  obtain ⟨hg1, hR, hg3⟩ := hg
  refine lv_istore (lv' := [(6, .int r2), (5, .int r), (4, .int x4), (3, .ref ao), (2, .ref (bd 0)), (1, .ref (ad 0)), (0, .ref b)]) hx hb dL_law_1527 hl (by decide) rfl (fun ls hl => ?_)
  refine lv_aload_n hx hb dL_law_1529 rfl (lv_at hl 4 rfl) ?_
  refine va_calli (va_runV (As := []) (rest := []) ⟨hx, hb, hml, hown, hts⟩ (met_X1_thrown l D cI cJ bd u2) (cwV 0 hts gL_law_X1_thrown rfl rfl rfl (by decide +kernel) ⟨Nat.le_of_ble_eq_true rfl, Nat.le_of_ble_eq_true rfl⟩) ⟨fun a U g mk q => ⟨q.1, b1R_calling q.2⟩, va_recv hK hI.2.1 (ci := 1) (q0 := 0) rfl rfl, fun U hU hW => ⟨rfl, b1R_at hI.2.1 hK hU hW⟩⟩ rfl rfl hl.1 rfl (lv_room (Nat.le_of_ble_eq_true rfl)) dL_law_1530 ⟨by show _ ≤ 3102; omega, by show _ ≤ 118996; omega⟩) hS (fun q _ h => h.elim) (fun q h => h.elim) (fun r3 u3 t H1 locs ht hvm hw3 hB hz hk2 hS => ?_)
  have hI := lwI_k hI hk2
  generalize H1 = H at hI hS ⊢
  have hr3 : r3 = r := by rw [← hw3]; exact hg1
  refine W.widen (k := k + 6) (n := n + 36) (by omega) (by omega) ?_
  refine lv_iload hx hb dL_law_1533 (lv_at hl 1 rfl) ?_
  refine lv_icmp_eq (tgt := 1540) hx hb dL_law_1535 (by decide) (fun cz => ?_) (fun cz => absurd hr3 cz)
  refine lv_iload hx hb dL_law_1540 (lv_at hl 1 rfl) ?_
  have kk : W p l e room_1 s m #[Value.ref b] below meth c H locs (k + 6) (n + 36) (lw_Z below #[Value.ref b] s) (F0 m 1557 ls []) := by
    refine lv_goto (tgt := 2318) hx hb dL_law_1557 (by decide) ?_
    exact K _ _ _ _ _ hI hR hS _ (lv_sub hl [2, 3, 4, 5, 6] rfl)
  refine lv_if_ne (tgt := 1557) hx hb dL_law_1542 (by decide) (fun cz2 => kk) (fun cz2 => ?_)
  refine lv_aload_n hx hb dL_law_1545 rfl (lv_at hl 3 rfl) ?_
  refine lv_iconst (v := 0) hx hb dL_law_1546 (by decide) ?_
  refine va_lald hx hb hK hI.1 8 1 rfl rfl in01 dL_law_1547 ?_
  refine lv_iload hx hb dL_law_1548 (lv_at hl 0 rfl) ?_
  refine lv_i2l hx hb dL_law_1550 rfl ?_
  refine W.lcmp hx hb dL_law_1551 ?_
  refine lv_if_eq (tgt := 1557) hx hb dL_law_1552 (by decide) (fun cz3 => kk) (fun cz3 => absurd ((lg_cmp_eq _ _).mpr (hg3 cz2)) cz3)

set_option maxHeartbeats 4000000 in
set_option maxRecDepth 100000 in
theorem lw_c22 {p : Program} {l : Launch} {e : Env} {s : State} {m : MethodId} {below : List Frame} {meth : Method} {c : Code} {b L : Nat} {xs : Nat → Int32} (hfl : l.stackTraces = false) (hL : L ≤ 2048) (C0 : lw_At p s m meth c b L xs) {D : va_G} {cI cJ : ClassId} {ad : Nat → Nat} {ao : Nat} {bd : Nat → Nat} (hK : va_K D pCl (pTy cI cJ) s) (hE : xE (fun q : Nat => s.heap.size ≤ q) s s.heap) (hNc : xN s) (H : Heap) (locs : List Loc) (S : pS) (T : pT) (o : Nat → Int64) (hI : lwI D cI cJ s ad ao bd S o T H) (hR : rel S T) (hS : va_S (fun q : Nat => s.heap.size ≤ q) s.heap H locs) (i : Nat) (hi : i + 4 ≤ L) (x4 : Int32) (hx4 : x4 = nI i) (k n : Nat) (hk : k + 6 ≤ 3102) (hn : n + 36 ≤ 118996) (ls : Array Slot) (hl : lv_has ls 8 [(4, .int x4), (3, .ref ao), (2, .ref (bd 0)), (1, .ref (ad 0)), (0, .ref b)])
    (K : ∀ (H : Heap) (locs : List Loc) (S : pS) (T : pT) (o : Nat → Int64), lwI D cI cJ s ad ao bd S o T H → rel S T → va_S (fun q : Nat => s.heap.size ≤ q) s.heap H locs → ∀ ls : Array Slot, lv_has ls 8 [(4, .int x4), (3, .ref ao), (2, .ref (bd 0)), (1, .ref (ad 0)), (0, .ref b)] → W p l e room_1 s m #[Value.ref b] below meth c H locs (k + 6) (n + 36) (lw_Z below #[Value.ref b] s) (F0 m 2318 ls [])) : W p l e room_1 s m #[Value.ref b] below meth c H locs k n (lw_Z below #[Value.ref b] s) (F0 m 1560 ls []) := by
  obtain ⟨hx, hb, hr, hml, hown, hts, hX, hbl, hlocks, hgv⟩ := C0
  have hb : c.code = cL_law := hb
  have hown : s.vm.findClass RL = some m.cls := hown
  have hts : ∀ w ∈ wsL_law, w.before #[Value.ref b] s = true := fun w hw => hts w (wsL_law_in w hw)
  have hbA : ¬ (fun q : Nat => s.heap.size ≤ q) b := Nat.not_le.mpr hbl
  obtain ⟨hi0, hi1, hi2, hi3⟩ := lw_n hL hi hx4
  refine lv_aload_n hx hb dL_law_1560 rfl (lv_at hl 3 rfl) ?_
  refine lv_aload_n hx hb dL_law_1561 rfl (lv_at hl 4 rfl) ?_
  refine lv_iload hx hb dL_law_1562 (lv_at hl 0 rfl) ?_
  refine lv_iconst (v := 1) hx hb dL_law_1564 (by decide) ?_
  refine lv_iadd hx hb dL_law_1565 ?_
  refine va_sld hx hb hX hbl hbA hS hi1 dL_law_1566 ?_
  refine lv_aload_n hx hb dL_law_1567 rfl (lv_at hl 4 rfl) ?_
  refine lv_iload hx hb dL_law_1568 (lv_at hl 0 rfl) ?_
  refine lv_iconst (v := 2) hx hb dL_law_1570 (by decide) ?_
  refine lv_iadd hx hb dL_law_1571 ?_
  refine va_sld hx hb hX hbl hbA hS hi2 dL_law_1572 ?_
  refine lv_aload_n hx hb dL_law_1573 rfl (lv_at hl 1 rfl) ?_
  refine va_calli (vx_runSW (As := [.ref (ad 0), .int (xs (x4 + 1).toNatClampNeg), .int (xs (x4 + 2).toNatClampNeg), .ref ao]) (rest := []) ⟨hx, hb, hml, hown, hts⟩ (met_L_isFermat l hfl D cI cJ ad ao (lwX s bd) S o ((xs (x4 + 1).toNatClampNeg)) ((xs (x4 + 2).toNatClampNeg))) (vx_cwSW 4 hts gL_law_L_isFermat rfl rfl rfl (by decide +kernel) ⟨Nat.le_of_ble_eq_true rfl, Nat.le_of_ble_eq_true rfl⟩) ⟨fun a U g mk q => ⟨q.1, q.2.1, va_K.moved (u := U) (U := U.calling g mk a) (Vm.Alike.refl U.vm) q.2.2.1, q.2.2.2.1, xE_calling q.2.2.2.2.1, xN_calling q.2.2.2.2.2⟩, fun U hU hW => ⟨rfl, by rw [hU]; exact hI.1, va_K.moved hW.alike hK, hI.2.2.1, xE_narrow (xE_at hE hS hU hW) (fun q h => h.elim), xN_at hNc hW⟩⟩ rfl rfl hl.1 rfl (lv_room (Nat.le_of_ble_eq_true rfl)) dL_law_1574 ⟨by show _ ≤ 3102; omega, by show _ ≤ 118996; omega⟩) hS (fun q _ h => h.1) (fun q h => h.1) (fun r u t H1 locs ht hvm hw hB hz hk1 hS => ?_)
  rw [ht] at hB
  have hI := lwI_x hI hB hk1
  generalize H1 = H at hI hS ⊢
  refine lv_istore (lv' := [(5, .int r), (4, .int x4), (3, .ref ao), (2, .ref (bd 0)), (1, .ref (ad 0)), (0, .ref b)]) hx hb dL_law_1577 hl (by decide) rfl (fun ls hl => ?_)
  refine lv_aload_n hx hb dL_law_1579 rfl (lv_at hl 3 rfl) ?_
  refine lv_aload_n hx hb dL_law_1580 rfl (lv_at hl 5 rfl) ?_
  refine lv_iload hx hb dL_law_1581 (lv_at hl 1 rfl) ?_
  refine lv_iconst (v := 1) hx hb dL_law_1583 (by decide) ?_
  refine lv_iadd hx hb dL_law_1584 ?_
  refine va_sld hx hb hX hbl hbA hS hi1 dL_law_1585 ?_
  refine lv_aload_n hx hb dL_law_1586 rfl (lv_at hl 5 rfl) ?_
  refine lv_iload hx hb dL_law_1587 (lv_at hl 1 rfl) ?_
  refine lv_iconst (v := 2) hx hb dL_law_1589 (by decide) ?_
  refine lv_iadd hx hb dL_law_1590 ?_
  refine va_sld hx hb hX hbl hbA hS hi2 dL_law_1591 ?_
  refine va_calli (va_runV (As := [.int (xs (x4 + 1).toNatClampNeg), .int (xs (x4 + 2).toNatClampNeg)]) (rest := []) ⟨hx, hb, hml, hown, hts⟩ (met_X1_isFermat l D cI cJ bd (lwM s ad ao) T ((xs (x4 + 1).toNatClampNeg)) ((xs (x4 + 2).toNatClampNeg))) (cwV 2 hts gL_law_X1_isFermat rfl rfl rfl (by decide +kernel) ⟨Nat.le_of_ble_eq_true rfl, Nat.le_of_ble_eq_true rfl⟩) ⟨fun a U g mk q => ⟨q.1, b1R_calling q.2.1, q.2.2⟩, va_recv hK hI.2.1 (ci := 1) (q0 := 0) rfl rfl, fun U hU hW => ⟨rfl, b1R_at hI.2.1 hK hU hW, hI.2.2.2⟩⟩ rfl rfl hl.1 rfl (lv_room (Nat.le_of_ble_eq_true rfl)) dL_law_1592 ⟨by show _ ≤ 3102; omega, by show _ ≤ 118996; omega⟩) hS (fun q _ h => h.1) (fun q h => h.1) (fun r2 u2 t H1 locs ht hvm hw2 hB hz hk2 hS => ?_)
  obtain ⟨hP1, hD1⟩ := hB
  rw [ht] at hP1
  have hI := lwI_m hI hP1 hD1 hk2
  generalize H1 = H at hI hS ⊢
  obtain ⟨hw2, -⟩ := hw2
  have hg := ag_isFermat hR o ((xs (x4 + 1).toNatClampNeg)) ((xs (x4 + 2).toNatClampNeg))
  rw [hw, hw2] at hg
  obtain ⟨hg1, hR, hg3⟩ := hg
  refine lv_istore (lv' := [(6, .int r2), (5, .int r), (4, .int x4), (3, .ref ao), (2, .ref (bd 0)), (1, .ref (ad 0)), (0, .ref b)]) hx hb dL_law_1595 hl (by decide) rfl (fun ls hl => ?_)
  refine lv_aload_n hx hb dL_law_1597 rfl (lv_at hl 4 rfl) ?_
  refine va_calli (va_runV (As := []) (rest := []) ⟨hx, hb, hml, hown, hts⟩ (met_X1_thrown l D cI cJ bd u2) (cwV 0 hts gL_law_X1_thrown rfl rfl rfl (by decide +kernel) ⟨Nat.le_of_ble_eq_true rfl, Nat.le_of_ble_eq_true rfl⟩) ⟨fun a U g mk q => ⟨q.1, b1R_calling q.2⟩, va_recv hK hI.2.1 (ci := 1) (q0 := 0) rfl rfl, fun U hU hW => ⟨rfl, b1R_at hI.2.1 hK hU hW⟩⟩ rfl rfl hl.1 rfl (lv_room (Nat.le_of_ble_eq_true rfl)) dL_law_1598 ⟨by show _ ≤ 3102; omega, by show _ ≤ 118996; omega⟩) hS (fun q _ h => h.elim) (fun q h => h.elim) (fun r3 u3 t H1 locs ht hvm hw3 hB hz hk2 hS => ?_)
  have hI := lwI_k hI hk2
  generalize H1 = H at hI hS ⊢
  have hr3 : r3 = r := by rw [← hw3]; exact hg1
  refine W.widen (k := k + 6) (n := n + 36) (by omega) (by omega) ?_
  refine lv_iload hx hb dL_law_1601 (lv_at hl 1 rfl) ?_
  refine lv_icmp_eq (tgt := 1608) hx hb dL_law_1603 (by decide) (fun cz => ?_) (fun cz => absurd hr3 cz)
  refine lv_iload hx hb dL_law_1608 (lv_at hl 1 rfl) ?_
  have kk : W p l e room_1 s m #[Value.ref b] below meth c H locs (k + 6) (n + 36) (lw_Z below #[Value.ref b] s) (F0 m 1632 ls []) := by
    refine lv_goto (tgt := 2318) hx hb dL_law_1632 (by decide) ?_
    exact K _ _ _ _ _ hI hR hS _ (lv_sub hl [2, 3, 4, 5, 6] rfl)
  refine lv_if_ne (tgt := 1632) hx hb dL_law_1610 (by decide) (fun cz2 => kk) (fun cz2 => ?_)
  refine lv_aload_n hx hb dL_law_1613 rfl (lv_at hl 3 rfl) ?_
  refine lv_iconst (v := 0) hx hb dL_law_1614 (by decide) ?_
  refine va_lald hx hb hK hI.1 8 1 rfl rfl in01 dL_law_1615 ?_
  refine lv_iload hx hb dL_law_1616 (lv_at hl 0 rfl) ?_
  refine lv_if_eq (tgt := 1625) hx hb dL_law_1618 (by decide) (fun cz4 => ?_) (fun cz4 => ?_)
  · refine lv_lconst (v := 0) hx hb dL_law_1625 rfl ?_
    refine W.lcmp hx hb dL_law_1626 ?_
    refine lv_if_eq (tgt := 1632) hx hb dL_law_1627 (by decide) (fun cz3 => kk) (fun cz3 => absurd ((lg_cmp_eq _ _).mpr (by rw [show u.2 ((0 : Int32).toNatClampNeg) = _ from hg3 cz2, if_pos cz4])) cz3)
  · refine lv_lconst (v := 1) hx hb dL_law_1621 rfl ?_
    refine lv_goto (tgt := 1626) hx hb dL_law_1622 (by decide) ?_
    refine W.lcmp hx hb dL_law_1626 ?_
    refine lv_if_eq (tgt := 1632) hx hb dL_law_1627 (by decide) (fun cz3 => kk) (fun cz3 => absurd ((lg_cmp_eq _ _).mpr (by rw [show u.2 ((0 : Int32).toNatClampNeg) = _ from hg3 cz2, if_neg cz4])) cz3)

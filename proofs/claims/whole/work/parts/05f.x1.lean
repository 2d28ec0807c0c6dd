def g_X1_nearestRoot_85 (v22_5 : Int32) (v85_1 : Int64) : Int64 := (f_X1_bitsOf v85_1 (-v22_5))
def g_X1_nearestRoot_22 : Nat → Int64 → Int64 → Int32 → Int64
  | 0, _, _, _ => 0
  | n + 1, v22_1, v22_3, v22_5 => (if (53 : Int32) ≤ (f_X1_lengthOf v22_1) then (if (v22_3 : Int64) ≤ v22_1 then (g_X1_nearestRoot_85 v22_5 v22_1) else (g_X1_nearestRoot_85 v22_5 (v22_1 + 1))) else (if ((v22_3 * 4) : Int64) < ((2 * (v22_1 * 2)) + 1) then (g_X1_nearestRoot_22 n (v22_1 * 2) (v22_3 * 4) (v22_5 + 1)) else (g_X1_nearestRoot_22 n ((v22_1 * 2) + 1) ((v22_3 * 4) - ((2 * (v22_1 * 2)) + 1)) (v22_5 + 1))))
def g_X1_nearestRoot_18n (p0 : Int32) (x18 : Int64) : Int64 := (g_X1_nearestRoot_22 (((53 : Int32).toInt - (f_X1_lengthOf (f_X1_rootOf ((p0 : Int32).toInt64))).toInt).toNat + 1) (f_X1_rootOf ((p0 : Int32).toInt64)) x18 0)
def f_X1_nearestRoot (p0 : Int32) : Int64 := (if (p0 : Int32) = 0 then 0 else (g_X1_nearestRoot_18n p0 (((p0 : Int32).toInt64) - ((f_X1_rootOf ((p0 : Int32).toInt64)) * (f_X1_rootOf ((p0 : Int32).toInt64))))))
set_option maxHeartbeats 4000000 in
set_option maxRecDepth 100000 in
theorem met_X1_nearestRoot (l : Launch) (p0 : Int32) (h0 : 0 ≤ p0.toInt) : Met l yX1_nearestRoot wsX1_nearestRoot ({ frames := 2, cells := 0, slots := 0, locals := 49 } : Room) (va_Pc [.int p0] (fun U => True)) (va_Ql (fun (r : Int64) (u : Unit) => f_X1_nearestRoot p0 = r) (fun _ _ => True) (fun _ => False)) 0 0 (fun _ => False) := by
  refine Met.ofW (cc := cX1_nearestRoot) (maxL := 6) (ret := (some .long)) (by decide) rfl ?_
  intro p e s m args below meth c s₁ B hml hv
  obtain ⟨rfl, -⟩ := hv
  have hx := B.exec
  have hb := B.bytes
  have hr := B.returns
  have hts := atoms_spec (ws := wsX1_nearestRoot) B.pre
  have hown : s.vm.findClass RX1 = some m.cls := findClass_of_methodNamed B.named
  have hlocks := B.notSynchronized
  have hS : va_S (fun _ => False) s.heap s.heap [] := va_S.rf
  have hl := lv_entry ([.int p0]) (n := 6) (Nat.le_of_ble_eq_true rfl)
  rw [lg_entry_eq]
  generalize (lg_sl ([.int p0]) ++ List.replicate (6 - (lg_sl ([.int p0])).length) Slot.unset).toArray = ls at hl ⊢
  have hl : lv_has ls 6 [(0, .int p0)] := hl
  obtain ⟨Q, hQ⟩ : ∃ Q : State → Prop, Q = (MQ below (va_Ql (fun (r : Int64) (u : Unit) => f_X1_nearestRoot p0 = r) (fun _ _ => True) (fun _ => False)) ([.int p0] : List Value).toArray s 0 0 (fun _ => False)) := ⟨_, rfl⟩
  rw [← hQ]
  have hR : f_X1_nearestRoot p0 = f_X1_nearestRoot p0 := rfl
  refine lv_iload_n hx hb dX1_nearestRoot_0 rfl (lv_at hl 0 rfl) ?_
  refine lv_if_ne (tgt := 6) hx hb dX1_nearestRoot_1 (by decide) (fun c1 => ?_) (fun c1 => ?_)
  · skip
    refine lv_iload_n hx hb dX1_nearestRoot_6 rfl (lv_at hl 0 rfl) ?_
    refine lv_i2l hx hb dX1_nearestRoot_7 rfl ?_
    refine va_calll (va_runS (As := [.long ((p0 : Int32).toInt64)]) (rest := []) ⟨hx, hb, hml, hown, hts⟩ (met_X1_rootOf l ((p0 : Int32).toInt64)) (va_cwS 1 hts gX1_nearestRoot_X1_rootOf rfl rfl rfl (by decide +kernel) ⟨Nat.le_of_ble_eq_true rfl, Nat.le_of_ble_eq_true rfl⟩) ⟨fun a U g mk q => q, fun U hU hW => ⟨rfl, trivial⟩⟩ rfl rfl hl.1 rfl (lv_room (Nat.le_of_ble_eq_true rfl)) dX1_nearestRoot_8 ⟨Nat.le_of_ble_eq_true rfl, Nat.le_of_ble_eq_true rfl⟩) hS (fun q _ h => h.elim) (fun q h => h.elim) (fun r8 u8 t H locs ht hvm hw8 hB hz hk hS => ?_)
    subst hw8
    refine lv_lstore_n (lv' := [(1, .long (f_X1_rootOf ((p0 : Int32).toInt64))), (0, .int p0)]) hx hb dX1_nearestRoot_11 rfl hl (by decide) rfl (fun ls hl => ?_)
    refine lv_iload_n hx hb dX1_nearestRoot_12 rfl (lv_at hl 1 rfl) ?_
    refine lv_i2l hx hb dX1_nearestRoot_13 rfl ?_
    refine lv_lload_n hx hb dX1_nearestRoot_14 rfl (lv_at hl 0 rfl) ?_
    refine lv_lload_n hx hb dX1_nearestRoot_15 rfl (lv_at hl 0 rfl) ?_
    refine lv_lmul hx hb dX1_nearestRoot_16 ?_
    refine lv_lsub hx hb dX1_nearestRoot_17 ?_
    refine lv_topl (fun x18 ex18 => ?_)
    refine lv_lstore_n (lv' := [(3, .long x18), (1, .long (f_X1_rootOf ((p0 : Int32).toInt64))), (0, .int p0)]) hx hb dX1_nearestRoot_18 rfl hl (by decide) rfl (fun ls hl => ?_)
    have hR : f_X1_nearestRoot p0 = g_X1_nearestRoot_18n p0 x18 := hR.trans (by simp only [f_X1_nearestRoot, if_neg c1, ex18])
    refine lv_iconst (v := 0) hx hb dX1_nearestRoot_19 (by decide) ?_
    refine lv_istore (lv' := [(5, .int 0), (3, .long x18), (1, .long (f_X1_rootOf ((p0 : Int32).toInt64))), (0, .int p0)]) hx hb dX1_nearestRoot_20 hl (by decide) rfl (fun ls hl => ?_)
    have J22 : ∀ (n22 : Nat) (v22_1 : Int64) (v22_3 : Int64) (v22_5 : Int32) (ls : Array Slot) (H : Heap) (locs : List Loc), lv_has ls 6 [(0, .int p0), (1, .long v22_1), (3, .long v22_3), (5, .int v22_5)] → va_S (fun _ => False) s.heap H locs → f_X1_nearestRoot p0 = g_X1_nearestRoot_22 n22 v22_1 v22_3 v22_5 → ((53 : Int32).toInt - (f_X1_lengthOf v22_1).toInt).toNat < n22 → (0 < (v22_1 : Int64).toInt) → W p l e (headSpec wsX1_nearestRoot ({ frames := 2, cells := 0, slots := 0, locals := 49 } : Room)).room s m ([.int p0] : List Value).toArray below meth c H locs 0 0 Q (F0 m 22 ls []) := by
      intro n22
      induction n22 with
      | zero => intro v22_1 v22_3 v22_5 ls H locs hl hS hR hmu22 hi22_0; exact absurd hmu22 (Nat.not_lt_zero _)
      | succ n22 ih22 =>
        intro v22_1 v22_3 v22_5 ls H locs hl hS hR hmu22 hi22_0
        refine lv_lload_n hx hb dX1_nearestRoot_22 rfl (lv_at hl 1 rfl) ?_
        refine va_calli (va_runS (As := [.long v22_1]) (rest := []) ⟨hx, hb, hml, hown, hts⟩ (met_X1_lengthOf l v22_1) (va_cwS 1 hts gX1_nearestRoot_X1_lengthOf rfl rfl rfl (by decide +kernel) ⟨Nat.le_of_ble_eq_true rfl, Nat.le_of_ble_eq_true rfl⟩) ⟨fun a U g mk q => q, fun U hU hW => ⟨rfl, trivial⟩⟩ rfl rfl hl.1 rfl (lv_room (Nat.le_of_ble_eq_true rfl)) dX1_nearestRoot_23 ⟨Nat.le_of_ble_eq_true rfl, Nat.le_of_ble_eq_true rfl⟩) hS (fun q _ h => h.elim) (fun q h => h.elim) (fun r23 u23 t H locs ht hvm hw23 hB hz hk hS => ?_)
        subst hw23
        refine lv_bipush (v := 53) hx hb dX1_nearestRoot_26 (by decide) ?_
        refine lv_icmp_ge (tgt := 75) hx hb dX1_nearestRoot_28 (by decide) (fun c28 => ?_) (fun c28 => ?_)
        · skip
          refine lv_lload_n hx hb dX1_nearestRoot_75 rfl (lv_at hl 2 rfl) ?_
          refine lv_lload_n hx hb dX1_nearestRoot_76 rfl (lv_at hl 1 rfl) ?_
          have J85 : ∀ (v85_1 : Int64) (ls : Array Slot) (H : Heap) (locs : List Loc), lv_has ls 6 [(0, .int p0), (1, .long v85_1), (3, .long v22_3), (5, .int v22_5)] → va_S (fun _ => False) s.heap H locs → f_X1_nearestRoot p0 = g_X1_nearestRoot_85 v22_5 v85_1 → W p l e (headSpec wsX1_nearestRoot ({ frames := 2, cells := 0, slots := 0, locals := 49 } : Room)).room s m ([.int p0] : List Value).toArray below meth c H locs 0 0 Q (F0 m 85 ls []) := by
            intro v85_1 ls H locs hl hS hR
            refine lv_lload_n hx hb dX1_nearestRoot_85 rfl (lv_at hl 1 rfl) ?_
            refine lv_iload hx hb dX1_nearestRoot_86 (lv_at hl 3 rfl) ?_
            refine lv_ineg hx hb dX1_nearestRoot_88 ?_
            refine va_calll (va_runS (As := [.long v85_1, .int (-v22_5)]) (rest := []) ⟨hx, hb, hml, hown, hts⟩ (met_X1_bitsOf l v85_1 (-v22_5)) (va_cwS 2 hts gX1_nearestRoot_X1_bitsOf rfl rfl rfl (by decide +kernel) ⟨Nat.le_of_ble_eq_true rfl, Nat.le_of_ble_eq_true rfl⟩) ⟨fun a U g mk q => q, fun U hU hW => ⟨rfl, trivial⟩⟩ rfl rfl hl.1 rfl (lv_room (Nat.le_of_ble_eq_true rfl)) dX1_nearestRoot_89 ⟨Nat.le_of_ble_eq_true rfl, Nat.le_of_ble_eq_true rfl⟩) hS (fun q _ h => h.elim) (fun q h => h.elim) (fun r89 u89 t H locs ht hvm hw89 hB hz hk hS => ?_)
            subst hw89
            rw [hQ]
            exact W.lret (v := (f_X1_bitsOf v85_1 (-v22_5))) hx hb hr (fun t ht hW => ⟨⟨(f_X1_bitsOf v85_1 (-v22_5)), (), rfl, (hR.trans (by simp only [g_X1_nearestRoot_85])), trivial⟩, hS.F ht⟩) hS.2.2 dX1_nearestRoot_92
          refine W.lcmp hx hb dX1_nearestRoot_77 ?_
          refine lv_if_le (tgt := 85) hx hb dX1_nearestRoot_78 (by decide) (fun c77 => ?_) (fun c77 => ?_)
          · skip
            have c77 : (v22_3 : Int64) ≤ v22_1 := (lg_cmp_le _ _).mp c77
            exact J85 v22_1 ls _ _ (lv_sub hl [0, 1, 2, 3] rfl) hS (hR.trans (by simp only [g_X1_nearestRoot_22, if_pos c28, if_pos c77]))
          · skip
            have c77 : ¬ ((v22_3 : Int64) ≤ v22_1) := fun h => c77 ((lg_cmp_le _ _).mpr h)
            refine lv_lload_n hx hb dX1_nearestRoot_81 rfl (lv_at hl 1 rfl) ?_
            refine lv_lconst (v := 1) hx hb dX1_nearestRoot_82 rfl ?_
            refine lv_ladd hx hb dX1_nearestRoot_83 ?_
            refine lv_lstore_n (lv' := [(1, .long (v22_1 + 1)), (0, .int p0), (3, .long v22_3), (5, .int v22_5)]) hx hb dX1_nearestRoot_84 rfl hl (by decide) rfl (fun ls hl => ?_)
            exact J85 (v22_1 + 1) ls _ _ (lv_sub hl [1, 0, 2, 3] rfl) hS (hR.trans (by simp only [g_X1_nearestRoot_22, if_pos c28, if_neg c77]))
        · skip
          refine lv_lload_n hx hb dX1_nearestRoot_31 rfl (lv_at hl 2 rfl) ?_
          refine lv_ldc2 (v := 4) hx hb hown (hts (.constantLong RX1 129 4) (by decide +kernel)) dX1_nearestRoot_32 ?_
          refine lv_lmul hx hb dX1_nearestRoot_35 ?_
          refine lv_lstore_n (lv' := [(3, .long (v22_3 * 4)), (0, .int p0), (1, .long v22_1), (5, .int v22_5)]) hx hb dX1_nearestRoot_36 rfl hl (by decide) rfl (fun ls hl => ?_)
          refine lv_lload_n hx hb dX1_nearestRoot_37 rfl (lv_at hl 2 rfl) ?_
          refine lv_ldc2 (v := 2) hx hb hown (hts (.constantLong RX1 43 2) (by decide +kernel)) dX1_nearestRoot_38 ?_
          refine lv_lmul hx hb dX1_nearestRoot_41 ?_
          refine lv_lstore_n (lv' := [(1, .long (v22_1 * 2)), (3, .long (v22_3 * 4)), (0, .int p0), (5, .int v22_5)]) hx hb dX1_nearestRoot_42 rfl hl (by decide) rfl (fun ls hl => ?_)
          refine lv_iinc (v := (v22_5 + 1)) (lv' := [(5, .int (v22_5 + 1)), (1, .long (v22_1 * 2)), (3, .long (v22_3 * 4)), (0, .int p0)]) hx hb dX1_nearestRoot_43 hl (k := 3) rfl (by rfl) (by decide) rfl (fun ls hl => ?_)
          refine lv_lload_n hx hb dX1_nearestRoot_46 rfl (lv_at hl 2 rfl) ?_
          refine lv_ldc2 (v := 2) hx hb hown (hts (.constantLong RX1 43 2) (by decide +kernel)) dX1_nearestRoot_47 ?_
          refine lv_lload_n hx hb dX1_nearestRoot_50 rfl (lv_at hl 1 rfl) ?_
          refine lv_lmul hx hb dX1_nearestRoot_51 ?_
          refine lv_lconst (v := 1) hx hb dX1_nearestRoot_52 rfl ?_
          refine lv_ladd hx hb dX1_nearestRoot_53 ?_
          refine W.lcmp hx hb dX1_nearestRoot_54 ?_
          refine lv_if_lt (tgt := 22) hx hb dX1_nearestRoot_55 (by decide) (fun c54 => ?_) (fun c54 => ?_)
          · skip
            have c54 : ((v22_3 * 4) : Int64) < ((2 * (v22_1 * 2)) + 1) := (lg_cmp_lt _ _).mp c54
            exact ih22 (v22_1 * 2) (v22_3 * 4) (v22_5 + 1) ls _ _ (lv_sub hl [3, 1, 2, 0] rfl) hS (hR.trans (by simp only [g_X1_nearestRoot_22, if_neg c28, if_pos c54])) (nr_mu0 hi22_0 c28 hmu22) (nr_p0 hi22_0 c28)
          · skip
            have c54 : ¬ (((v22_3 * 4) : Int64) < ((2 * (v22_1 * 2)) + 1)) := fun h => c54 ((lg_cmp_lt _ _).mpr h)
            refine lv_lload_n hx hb dX1_nearestRoot_58 rfl (lv_at hl 2 rfl) ?_
            refine lv_ldc2 (v := 2) hx hb hown (hts (.constantLong RX1 43 2) (by decide +kernel)) dX1_nearestRoot_59 ?_
            refine lv_lload_n hx hb dX1_nearestRoot_62 rfl (lv_at hl 1 rfl) ?_
            refine lv_lmul hx hb dX1_nearestRoot_63 ?_
            refine lv_lconst (v := 1) hx hb dX1_nearestRoot_64 rfl ?_
            refine lv_ladd hx hb dX1_nearestRoot_65 ?_
            refine lv_lsub hx hb dX1_nearestRoot_66 ?_
            refine lv_lstore_n (lv' := [(3, .long ((v22_3 * 4) - ((2 * (v22_1 * 2)) + 1))), (5, .int (v22_5 + 1)), (1, .long (v22_1 * 2)), (0, .int p0)]) hx hb dX1_nearestRoot_67 rfl hl (by decide) rfl (fun ls hl => ?_)
            refine lv_lload_n hx hb dX1_nearestRoot_68 rfl (lv_at hl 2 rfl) ?_
            refine lv_lconst (v := 1) hx hb dX1_nearestRoot_69 rfl ?_
            refine lv_ladd hx hb dX1_nearestRoot_70 ?_
            refine lv_lstore_n (lv' := [(1, .long ((v22_1 * 2) + 1)), (3, .long ((v22_3 * 4) - ((2 * (v22_1 * 2)) + 1))), (5, .int (v22_5 + 1)), (0, .int p0)]) hx hb dX1_nearestRoot_71 rfl hl (by decide) rfl (fun ls hl => ?_)
            refine lv_goto (tgt := 22) hx hb dX1_nearestRoot_72 (by decide) ?_
            exact ih22 ((v22_1 * 2) + 1) ((v22_3 * 4) - ((2 * (v22_1 * 2)) + 1)) (v22_5 + 1) ls _ _ (lv_sub hl [3, 0, 1, 2] rfl) hS (hR.trans (by simp only [g_X1_nearestRoot_22, if_neg c28, if_neg c54])) (nr_mu1 hi22_0 c28 hmu22) (nr_p1 hi22_0 c28)
    exact J22 (((53 : Int32).toInt - (f_X1_lengthOf (f_X1_rootOf ((p0 : Int32).toInt64))).toInt).toNat + 1) (f_X1_rootOf ((p0 : Int32).toInt64)) x18 0 ls _ _ (lv_sub hl [3, 2, 1, 0] rfl) hS (hR.trans (by simp only [g_X1_nearestRoot_18n])) (Nat.lt_succ_self _) (rootOf_pos h0 c1)
  · skip
    refine lv_lconst (v := 0) hx hb dX1_nearestRoot_4 rfl ?_
    rw [hQ]
    exact W.lret (v := 0) hx hb hr (fun t ht hW => ⟨⟨0, (), rfl, (hR.trans (by simp only [f_X1_nearestRoot, if_pos c1])), trivial⟩, hS.F ht⟩) hS.2.2 dX1_nearestRoot_5

theorem half_nz {w : Int32} (h : w = 53 ∨ w = 52) : ¬ (((1 : Int64) <<< (((w - 1) : Int32).toInt64 &&& 63)) * 2) = 0 := by rcases h with rfl | rfl <;> decide
theorem from_nn {a hi : Int32} (h : ¬ (f_X1_isFrom a 0 hi) = 0) : 0 ≤ a.toInt := by have := (isFrom_in h).1; rw [i0] at this; exact this

def g_X1_nearestSquare_210 (v210_19 : Int64) (v210_23 : Int32) : Int64 := (f_X1_bitsOf v210_19 v210_23)
def g_X1_nearestSquare_177 (p0 : Int64) (p1 : Int32) (w107_0 : Int32) (v177_19 : Int64) : Int64 := (if (v177_19 : Int64) = 9007199254740992 then (g_X1_nearestSquare_210 (v177_19 / 2) (((2 * (p1 - (53 - (f_X1_lengthOf p0)))) + w107_0) + 1)) else (g_X1_nearestSquare_210 v177_19 ((2 * (p1 - (53 - (f_X1_lengthOf p0)))) + w107_0)))
def g_X1_nearestSquare_171 (p0 : Int64) (p1 : Int32) (w107_0 : Int32) (x131 : Int64) : Int64 := (g_X1_nearestSquare_177 p0 p1 w107_0 (x131 + 1))
def g_X1_nearestSquare_142n (p0 : Int64) (p1 : Int32) (w107_0 : Int32) (x131 : Int64) (x142 : Int64) : Int64 := (if (((1 : Int64) <<< (((w107_0 - 1) : Int32).toInt64 &&& 63)) : Int64) < x142 then (g_X1_nearestSquare_171 p0 p1 w107_0 x131) else (if (x142 : Int64) = ((1 : Int64) <<< (((w107_0 - 1) : Int32).toInt64 &&& 63)) then (if ((x131 - x131 / 2 * 2) : Int64) = 1 then (g_X1_nearestSquare_171 p0 p1 w107_0 x131) else (g_X1_nearestSquare_177 p0 p1 w107_0 x131)) else (g_X1_nearestSquare_177 p0 p1 w107_0 x131)))
def g_X1_nearestSquare_131n (p0 : Int64) (p1 : Int32) (x62 : Int64) (w107_0 : Int32) (x131 : Int64) : Int64 := (g_X1_nearestSquare_142n p0 p1 w107_0 x131 ((x62 - x62 / 18014398509481984 * 18014398509481984) - (x62 - x62 / 18014398509481984 * 18014398509481984) / (((1 : Int64) <<< (((w107_0 - 1) : Int32).toInt64 &&& 63)) * 2) * (((1 : Int64) <<< (((w107_0 - 1) : Int32).toInt64 &&& 63)) * 2)))
def g_X1_nearestSquare_107 (p0 : Int64) (p1 : Int32) (x62 : Int64) (x81 : Int64) (w107_0 : Int32) : Int64 := (g_X1_nearestSquare_131n p0 p1 x62 w107_0 ((x81 <<< (((54 - w107_0) : Int32).toInt64 &&& 63)) + ((x62 - x62 / 18014398509481984 * 18014398509481984) >>> ((w107_0 : Int32).toInt64 &&& 63))))
def g_X1_nearestSquare_81n (p0 : Int64) (p1 : Int32) (x62 : Int64) (x81 : Int64) : Int64 := (if (x81 : Int64) < 2251799813685248 then (g_X1_nearestSquare_107 p0 p1 x62 x81 52) else (g_X1_nearestSquare_107 p0 p1 x62 x81 53))
def g_X1_nearestSquare_62n (p0 : Int64) (p1 : Int32) (x26 : Int64) (x34 : Int64) (x62 : Int64) : Int64 := (g_X1_nearestSquare_81n p0 p1 x62 (((x26 * x26) + (((2 * x26) * x34) >>> ((27 : Int32).toInt64 &&& 63))) + (x62 >>> ((54 : Int32).toInt64 &&& 63))))
def g_X1_nearestSquare_34n (p0 : Int64) (p1 : Int32) (x26 : Int64) (x34 : Int64) : Int64 := (g_X1_nearestSquare_62n p0 p1 x26 x34 ((x34 * x34) + ((((2 * x26) * x34) - ((2 * x26) * x34) / 134217728 * 134217728) <<< ((27 : Int32).toInt64 &&& 63))))
def g_X1_nearestSquare_26n (p0 : Int64) (p1 : Int32) (x26 : Int64) : Int64 := (g_X1_nearestSquare_34n p0 p1 x26 ((p0 <<< (((53 - (f_X1_lengthOf p0)) : Int32).toInt64 &&& 63)) - (p0 <<< (((53 - (f_X1_lengthOf p0)) : Int32).toInt64 &&& 63)) / 134217728 * 134217728))
def f_X1_nearestSquare (p0 : Int64) (p1 : Int32) : Int64 := (if (p0 : Int64) = 0 then 0 else (g_X1_nearestSquare_26n p0 p1 ((p0 <<< (((53 - (f_X1_lengthOf p0)) : Int32).toInt64 &&& 63)) >>> ((27 : Int32).toInt64 &&& 63))))
set_option maxHeartbeats 4000000 in
set_option maxRecDepth 100000 in
theorem met_X1_nearestSquare (l : Launch) (p0 : Int64) (p1 : Int32) : Met l yX1_nearestSquare wsX1_nearestSquare ({ frames := 2, cells := 0, slots := 0, locals := 49 } : Room) (va_Pc [.long p0, .int p1] (fun U => True)) (va_Ql (fun (r : Int64) (u : Unit) => f_X1_nearestSquare p0 p1 = r) (fun _ _ => True) (fun _ => False)) 0 0 (fun _ => False) := by
  refine Met.ofW (cc := cX1_nearestSquare) (maxL := 24) (ret := (some .long)) (by decide) rfl ?_
  intro p e s m args below meth c s₁ B hml hv
  obtain ⟨rfl, -⟩ := hv
  have hx := B.exec
  have hb := B.bytes
  have hr := B.returns
  have hts := atoms_spec (ws := wsX1_nearestSquare) B.pre
  have hown : s.vm.findClass RX1 = some m.cls := findClass_of_methodNamed B.named
  have hlocks := B.notSynchronized
  have hS : va_S (fun _ => False) s.heap s.heap [] := va_S.rf
  have hl := lv_entry ([.long p0, .int p1]) (n := 24) (Nat.le_of_ble_eq_true rfl)
  rw [lg_entry_eq]
  generalize (lg_sl ([.long p0, .int p1]) ++ List.replicate (24 - (lg_sl ([.long p0, .int p1])).length) Slot.unset).toArray = ls at hl ⊢
  have hl : lv_has ls 24 [(0, .long p0), (2, .int p1)] := hl
  obtain ⟨Q, hQ⟩ : ∃ Q : State → Prop, Q = (MQ below (va_Ql (fun (r : Int64) (u : Unit) => f_X1_nearestSquare p0 p1 = r) (fun _ _ => True) (fun _ => False)) ([.long p0, .int p1] : List Value).toArray s 0 0 (fun _ => False)) := ⟨_, rfl⟩
  rw [← hQ]
  have hR : f_X1_nearestSquare p0 p1 = f_X1_nearestSquare p0 p1 := rfl
  refine lv_lload_n hx hb dX1_nearestSquare_0 rfl (lv_at hl 0 rfl) ?_
  refine lv_lconst (v := 0) hx hb dX1_nearestSquare_1 rfl ?_
  refine W.lcmp hx hb dX1_nearestSquare_2 ?_
  refine lv_if_ne (tgt := 8) hx hb dX1_nearestSquare_3 (by decide) (fun c2 => ?_) (fun c2 => ?_)
  · skip
    have c2 : ¬ ((p0 : Int64) = 0) := fun h => c2 ((lg_cmp_eq _ _).mpr h)
    refine lv_bipush (v := 53) hx hb dX1_nearestSquare_8 (by decide) ?_
    refine lv_lload_n hx hb dX1_nearestSquare_10 rfl (lv_at hl 0 rfl) ?_
    refine va_calli (va_runS (As := [.long p0]) (rest := [.int 53]) ⟨hx, hb, hml, hown, hts⟩ (met_X1_lengthOf l p0) (va_cwS 1 hts gX1_nearestSquare_X1_lengthOf rfl rfl rfl (by decide +kernel) ⟨Nat.le_of_ble_eq_true rfl, Nat.le_of_ble_eq_true rfl⟩) ⟨fun a U g mk q => q, fun U hU hW => ⟨rfl, trivial⟩⟩ rfl rfl hl.1 rfl (lv_room (Nat.le_of_ble_eq_true rfl)) dX1_nearestSquare_11 ⟨Nat.le_of_ble_eq_true rfl, Nat.le_of_ble_eq_true rfl⟩) hS (fun q _ h => h.elim) (fun q h => h.elim) (fun r11 u11 t H locs ht hvm hw11 hB hz hk hS => ?_)
    subst hw11
    refine lv_isub hx hb dX1_nearestSquare_14 ?_
    refine lv_istore_n (lv' := [(3, .int (53 - (f_X1_lengthOf p0))), (0, .long p0), (2, .int p1)]) hx hb dX1_nearestSquare_15 rfl hl (by decide) rfl (fun ls hl => ?_)
    refine lv_lload_n hx hb dX1_nearestSquare_16 rfl (lv_at hl 1 rfl) ?_
    refine lv_iload_n hx hb dX1_nearestSquare_17 rfl (lv_at hl 0 rfl) ?_
    refine lv_lshl hx hb dX1_nearestSquare_18 rfl ?_
    refine lv_lstore (lv' := [(4, .long (p0 <<< (((53 - (f_X1_lengthOf p0)) : Int32).toInt64 &&& 63))), (3, .int (53 - (f_X1_lengthOf p0))), (0, .long p0), (2, .int p1)]) hx hb dX1_nearestSquare_19 hl (by decide) rfl (fun ls hl => ?_)
    refine lv_lload hx hb dX1_nearestSquare_21 (lv_at hl 0 rfl) ?_
    refine lv_bipush (v := 27) hx hb dX1_nearestSquare_23 (by decide) ?_
    refine lv_lshr hx hb dX1_nearestSquare_25 rfl ?_
    refine lv_topl (fun x26 ex26 => ?_)
    refine lv_lstore (lv' := [(6, .long x26), (4, .long (p0 <<< (((53 - (f_X1_lengthOf p0)) : Int32).toInt64 &&& 63))), (3, .int (53 - (f_X1_lengthOf p0))), (0, .long p0), (2, .int p1)]) hx hb dX1_nearestSquare_26 hl (by decide) rfl (fun ls hl => ?_)
    have hR : f_X1_nearestSquare p0 p1 = g_X1_nearestSquare_26n p0 p1 x26 := hR.trans (by simp only [f_X1_nearestSquare, if_neg c2, ex26])
    refine lv_lload hx hb dX1_nearestSquare_28 (lv_at hl 1 rfl) ?_
    refine lv_ldc2 (v := 134217728) hx hb hown (hts (.constantLong RX1 131 134217728) (by decide +kernel)) dX1_nearestSquare_30 ?_
    refine lv_lrem hx hb dX1_nearestSquare_33 (by decide) ?_
    refine lv_topl (fun x34 ex34 => ?_)
    refine lv_lstore (lv' := [(8, .long x34), (6, .long x26), (4, .long (p0 <<< (((53 - (f_X1_lengthOf p0)) : Int32).toInt64 &&& 63))), (3, .int (53 - (f_X1_lengthOf p0))), (0, .long p0), (2, .int p1)]) hx hb dX1_nearestSquare_34 hl (by decide) rfl (fun ls hl => ?_)
    have hR : f_X1_nearestSquare p0 p1 = g_X1_nearestSquare_34n p0 p1 x26 x34 := hR.trans (by simp only [g_X1_nearestSquare_26n, ex34])
    refine lv_ldc2 (v := 2) hx hb hown (hts (.constantLong RX1 43 2) (by decide +kernel)) dX1_nearestSquare_36 ?_
    refine lv_lload hx hb dX1_nearestSquare_39 (lv_at hl 1 rfl) ?_
    refine lv_lmul hx hb dX1_nearestSquare_41 ?_
    refine lv_lload hx hb dX1_nearestSquare_42 (lv_at hl 0 rfl) ?_
    refine lv_lmul hx hb dX1_nearestSquare_44 ?_
    refine lv_lstore (lv' := [(10, .long ((2 * x26) * x34)), (8, .long x34), (6, .long x26), (4, .long (p0 <<< (((53 - (f_X1_lengthOf p0)) : Int32).toInt64 &&& 63))), (3, .int (53 - (f_X1_lengthOf p0))), (0, .long p0), (2, .int p1)]) hx hb dX1_nearestSquare_45 hl (by decide) rfl (fun ls hl => ?_)
    refine lv_lload hx hb dX1_nearestSquare_47 (lv_at hl 1 rfl) ?_
    refine lv_lload hx hb dX1_nearestSquare_49 (lv_at hl 1 rfl) ?_
    refine lv_lmul hx hb dX1_nearestSquare_51 ?_
    refine lv_lload hx hb dX1_nearestSquare_52 (lv_at hl 0 rfl) ?_
    refine lv_ldc2 (v := 134217728) hx hb hown (hts (.constantLong RX1 131 134217728) (by decide +kernel)) dX1_nearestSquare_54 ?_
    refine lv_lrem hx hb dX1_nearestSquare_57 (by decide) ?_
    refine lv_bipush (v := 27) hx hb dX1_nearestSquare_58 (by decide) ?_
    refine lv_lshl hx hb dX1_nearestSquare_60 rfl ?_
    refine lv_ladd hx hb dX1_nearestSquare_61 ?_
    refine lv_topl (fun x62 ex62 => ?_)
    refine lv_lstore (lv' := [(12, .long x62), (10, .long ((2 * x26) * x34)), (8, .long x34), (6, .long x26), (4, .long (p0 <<< (((53 - (f_X1_lengthOf p0)) : Int32).toInt64 &&& 63))), (3, .int (53 - (f_X1_lengthOf p0))), (0, .long p0), (2, .int p1)]) hx hb dX1_nearestSquare_62 hl (by decide) rfl (fun ls hl => ?_)
    have hR : f_X1_nearestSquare p0 p1 = g_X1_nearestSquare_62n p0 p1 x26 x34 x62 := hR.trans (by simp only [g_X1_nearestSquare_34n, ex62])
    refine lv_lload hx hb dX1_nearestSquare_64 (lv_at hl 3 rfl) ?_
    refine lv_lload hx hb dX1_nearestSquare_66 (lv_at hl 3 rfl) ?_
    refine lv_lmul hx hb dX1_nearestSquare_68 ?_
    refine lv_lload hx hb dX1_nearestSquare_69 (lv_at hl 1 rfl) ?_
    refine lv_bipush (v := 27) hx hb dX1_nearestSquare_71 (by decide) ?_
    refine lv_lshr hx hb dX1_nearestSquare_73 rfl ?_
    refine lv_ladd hx hb dX1_nearestSquare_74 ?_
    refine lv_lload hx hb dX1_nearestSquare_75 (lv_at hl 0 rfl) ?_
    refine lv_bipush (v := 54) hx hb dX1_nearestSquare_77 (by decide) ?_
    refine lv_lshr hx hb dX1_nearestSquare_79 rfl ?_
    refine lv_ladd hx hb dX1_nearestSquare_80 ?_
    refine lv_topl (fun x81 ex81 => ?_)
    refine lv_lstore (lv' := [(14, .long x81), (12, .long x62), (10, .long ((2 * x26) * x34)), (8, .long x34), (6, .long x26), (4, .long (p0 <<< (((53 - (f_X1_lengthOf p0)) : Int32).toInt64 &&& 63))), (3, .int (53 - (f_X1_lengthOf p0))), (0, .long p0), (2, .int p1)]) hx hb dX1_nearestSquare_81 hl (by decide) rfl (fun ls hl => ?_)
    have hR : f_X1_nearestSquare p0 p1 = g_X1_nearestSquare_81n p0 p1 x62 x81 := hR.trans (by simp only [g_X1_nearestSquare_62n, ex81])
    refine lv_lload hx hb dX1_nearestSquare_83 (lv_at hl 1 rfl) ?_
    refine lv_ldc2 (v := 18014398509481984) hx hb hown (hts (.constantLong RX1 133 18014398509481984) (by decide +kernel)) dX1_nearestSquare_85 ?_
    refine lv_lrem hx hb dX1_nearestSquare_88 (by decide) ?_
    refine lv_lstore (lv' := [(12, .long (x62 - x62 / 18014398509481984 * 18014398509481984)), (14, .long x81), (10, .long ((2 * x26) * x34)), (8, .long x34), (6, .long x26), (4, .long (p0 <<< (((53 - (f_X1_lengthOf p0)) : Int32).toInt64 &&& 63))), (3, .int (53 - (f_X1_lengthOf p0))), (0, .long p0), (2, .int p1)]) hx hb dX1_nearestSquare_89 hl (by decide) rfl (fun ls hl => ?_)
    refine lv_lload hx hb dX1_nearestSquare_91 (lv_at hl 1 rfl) ?_
    refine lv_ldc2 (v := 2251799813685248) hx hb hown (hts (.constantLong RX1 135 2251799813685248) (by decide +kernel)) dX1_nearestSquare_93 ?_
    have J107 : ∀ (w107_0 : Int32) (ls : Array Slot) (H : Heap) (locs : List Loc), lv_has ls 24 [(0, .long p0), (2, .int p1), (3, .int (53 - (f_X1_lengthOf p0))), (4, .long (p0 <<< (((53 - (f_X1_lengthOf p0)) : Int32).toInt64 &&& 63))), (6, .long x26), (8, .long x34), (10, .long ((2 * x26) * x34)), (12, .long (x62 - x62 / 18014398509481984 * 18014398509481984)), (14, .long x81)] → va_S (fun _ => False) s.heap H locs → (w107_0 = 53 ∨ w107_0 = 52) → f_X1_nearestSquare p0 p1 = g_X1_nearestSquare_107 p0 p1 x62 x81 w107_0 → W p l e (headSpec wsX1_nearestSquare ({ frames := 2, cells := 0, slots := 0, locals := 49 } : Room)).room s m ([.long p0, .int p1] : List Value).toArray below meth c H locs 0 0 Q (F0 m 107 ls [.int w107_0]) := by
      intro w107_0 ls H locs hl hS hb_w107_0 hR
      refine lv_istore (lv' := [(16, .int w107_0), (0, .long p0), (2, .int p1), (3, .int (53 - (f_X1_lengthOf p0))), (4, .long (p0 <<< (((53 - (f_X1_lengthOf p0)) : Int32).toInt64 &&& 63))), (6, .long x26), (8, .long x34), (10, .long ((2 * x26) * x34)), (12, .long (x62 - x62 / 18014398509481984 * 18014398509481984)), (14, .long x81)]) hx hb dX1_nearestSquare_107 hl (by decide) rfl (fun ls hl => ?_)
      refine lv_lconst (v := 1) hx hb dX1_nearestSquare_109 rfl ?_
      refine lv_iload hx hb dX1_nearestSquare_110 (lv_at hl 0 rfl) ?_
      refine lv_iconst (v := 1) hx hb dX1_nearestSquare_112 (by decide) ?_
      refine lv_isub hx hb dX1_nearestSquare_113 ?_
      refine lv_lshl hx hb dX1_nearestSquare_114 rfl ?_
      refine lv_lstore (lv' := [(17, .long ((1 : Int64) <<< (((w107_0 - 1) : Int32).toInt64 &&& 63))), (16, .int w107_0), (0, .long p0), (2, .int p1), (3, .int (53 - (f_X1_lengthOf p0))), (4, .long (p0 <<< (((53 - (f_X1_lengthOf p0)) : Int32).toInt64 &&& 63))), (6, .long x26), (8, .long x34), (10, .long ((2 * x26) * x34)), (12, .long (x62 - x62 / 18014398509481984 * 18014398509481984)), (14, .long x81)]) hx hb dX1_nearestSquare_115 hl (by decide) rfl (fun ls hl => ?_)
      refine lv_lload hx hb dX1_nearestSquare_117 (lv_at hl 10 rfl) ?_
      refine lv_bipush (v := 54) hx hb dX1_nearestSquare_119 (by decide) ?_
      refine lv_iload hx hb dX1_nearestSquare_121 (lv_at hl 1 rfl) ?_
      refine lv_isub hx hb dX1_nearestSquare_123 ?_
      refine lv_lshl hx hb dX1_nearestSquare_124 rfl ?_
      refine lv_lload hx hb dX1_nearestSquare_125 (lv_at hl 9 rfl) ?_
      refine lv_iload hx hb dX1_nearestSquare_127 (lv_at hl 1 rfl) ?_
      refine lv_lshr hx hb dX1_nearestSquare_129 rfl ?_
      refine lv_ladd hx hb dX1_nearestSquare_130 ?_
      refine lv_topl (fun x131 ex131 => ?_)
      refine lv_lstore (lv' := [(19, .long x131), (17, .long ((1 : Int64) <<< (((w107_0 - 1) : Int32).toInt64 &&& 63))), (16, .int w107_0), (0, .long p0), (2, .int p1), (3, .int (53 - (f_X1_lengthOf p0))), (4, .long (p0 <<< (((53 - (f_X1_lengthOf p0)) : Int32).toInt64 &&& 63))), (6, .long x26), (8, .long x34), (10, .long ((2 * x26) * x34)), (12, .long (x62 - x62 / 18014398509481984 * 18014398509481984)), (14, .long x81)]) hx hb dX1_nearestSquare_131 hl (by decide) rfl (fun ls hl => ?_)
      have hR : f_X1_nearestSquare p0 p1 = g_X1_nearestSquare_131n p0 p1 x62 w107_0 x131 := hR.trans (by simp only [g_X1_nearestSquare_107, ex131])
      refine lv_lload hx hb dX1_nearestSquare_133 (lv_at hl 10 rfl) ?_
      refine lv_lload hx hb dX1_nearestSquare_135 (lv_at hl 1 rfl) ?_
      refine lv_ldc2 (v := 2) hx hb hown (hts (.constantLong RX1 43 2) (by decide +kernel)) dX1_nearestSquare_137 ?_
      refine lv_lmul hx hb dX1_nearestSquare_140 ?_
      refine lv_lrem hx hb dX1_nearestSquare_141 (half_nz hb_w107_0) ?_
      refine lv_topl (fun x142 ex142 => ?_)
      refine lv_lstore (lv' := [(21, .long x142), (19, .long x131), (17, .long ((1 : Int64) <<< (((w107_0 - 1) : Int32).toInt64 &&& 63))), (16, .int w107_0), (0, .long p0), (2, .int p1), (3, .int (53 - (f_X1_lengthOf p0))), (4, .long (p0 <<< (((53 - (f_X1_lengthOf p0)) : Int32).toInt64 &&& 63))), (6, .long x26), (8, .long x34), (10, .long ((2 * x26) * x34)), (12, .long (x62 - x62 / 18014398509481984 * 18014398509481984)), (14, .long x81)]) hx hb dX1_nearestSquare_142 hl (by decide) rfl (fun ls hl => ?_)
      have hR : f_X1_nearestSquare p0 p1 = g_X1_nearestSquare_142n p0 p1 w107_0 x131 x142 := hR.trans (by simp only [g_X1_nearestSquare_131n, ex142])
      refine lv_lload hx hb dX1_nearestSquare_144 (lv_at hl 0 rfl) ?_
      refine lv_lload hx hb dX1_nearestSquare_146 (lv_at hl 2 rfl) ?_
      have J177 : ∀ (v177_19 : Int64) (ls : Array Slot) (H : Heap) (locs : List Loc), lv_has ls 24 [(0, .long p0), (2, .int p1), (3, .int (53 - (f_X1_lengthOf p0))), (4, .long (p0 <<< (((53 - (f_X1_lengthOf p0)) : Int32).toInt64 &&& 63))), (6, .long x26), (8, .long x34), (10, .long ((2 * x26) * x34)), (12, .long (x62 - x62 / 18014398509481984 * 18014398509481984)), (14, .long x81), (16, .int w107_0), (17, .long ((1 : Int64) <<< (((w107_0 - 1) : Int32).toInt64 &&& 63))), (19, .long v177_19), (21, .long x142)] → va_S (fun _ => False) s.heap H locs → f_X1_nearestSquare p0 p1 = g_X1_nearestSquare_177 p0 p1 w107_0 v177_19 → W p l e (headSpec wsX1_nearestSquare ({ frames := 2, cells := 0, slots := 0, locals := 49 } : Room)).room s m ([.long p0, .int p1] : List Value).toArray below meth c H locs 0 0 Q (F0 m 177 ls []) := by
        intro v177_19 ls H locs hl hS hR
        refine lv_iconst (v := 2) hx hb dX1_nearestSquare_177 (by decide) ?_
        refine lv_iload_n hx hb dX1_nearestSquare_178 rfl (lv_at hl 1 rfl) ?_
        refine lv_iload_n hx hb dX1_nearestSquare_179 rfl (lv_at hl 2 rfl) ?_
        refine lv_isub hx hb dX1_nearestSquare_180 ?_
        refine lv_imul hx hb dX1_nearestSquare_181 ?_
        refine lv_iload hx hb dX1_nearestSquare_182 (lv_at hl 9 rfl) ?_
        refine lv_iadd hx hb dX1_nearestSquare_184 ?_
        refine lv_istore (lv' := [(23, .int ((2 * (p1 - (53 - (f_X1_lengthOf p0)))) + w107_0)), (0, .long p0), (2, .int p1), (3, .int (53 - (f_X1_lengthOf p0))), (4, .long (p0 <<< (((53 - (f_X1_lengthOf p0)) : Int32).toInt64 &&& 63))), (6, .long x26), (8, .long x34), (10, .long ((2 * x26) * x34)), (12, .long (x62 - x62 / 18014398509481984 * 18014398509481984)), (14, .long x81), (16, .int w107_0), (17, .long ((1 : Int64) <<< (((w107_0 - 1) : Int32).toInt64 &&& 63))), (19, .long v177_19), (21, .long x142)]) hx hb dX1_nearestSquare_185 hl (by decide) rfl (fun ls hl => ?_)
        refine lv_lload hx hb dX1_nearestSquare_187 (lv_at hl 12 rfl) ?_
        refine lv_ldc2 (v := 9007199254740992) hx hb hown (hts (.constantLong RX1 137 9007199254740992) (by decide +kernel)) dX1_nearestSquare_189 ?_
        have J210 : ∀ (v210_19 : Int64) (v210_23 : Int32) (ls : Array Slot) (H : Heap) (locs : List Loc), lv_has ls 24 [(0, .long p0), (2, .int p1), (3, .int (53 - (f_X1_lengthOf p0))), (4, .long (p0 <<< (((53 - (f_X1_lengthOf p0)) : Int32).toInt64 &&& 63))), (6, .long x26), (8, .long x34), (10, .long ((2 * x26) * x34)), (12, .long (x62 - x62 / 18014398509481984 * 18014398509481984)), (14, .long x81), (16, .int w107_0), (17, .long ((1 : Int64) <<< (((w107_0 - 1) : Int32).toInt64 &&& 63))), (19, .long v210_19), (21, .long x142), (23, .int v210_23)] → va_S (fun _ => False) s.heap H locs → f_X1_nearestSquare p0 p1 = g_X1_nearestSquare_210 v210_19 v210_23 → W p l e (headSpec wsX1_nearestSquare ({ frames := 2, cells := 0, slots := 0, locals := 49 } : Room)).room s m ([.long p0, .int p1] : List Value).toArray below meth c H locs 0 0 Q (F0 m 210 ls []) := by
          intro v210_19 v210_23 ls H locs hl hS hR
          refine lv_lload hx hb dX1_nearestSquare_210 (lv_at hl 11 rfl) ?_
          refine lv_iload hx hb dX1_nearestSquare_212 (lv_at hl 13 rfl) ?_
          refine va_calll (va_runS (As := [.long v210_19, .int v210_23]) (rest := []) ⟨hx, hb, hml, hown, hts⟩ (met_X1_bitsOf l v210_19 v210_23) (va_cwS 2 hts gX1_nearestSquare_X1_bitsOf rfl rfl rfl (by decide +kernel) ⟨Nat.le_of_ble_eq_true rfl, Nat.le_of_ble_eq_true rfl⟩) ⟨fun a U g mk q => q, fun U hU hW => ⟨rfl, trivial⟩⟩ rfl rfl hl.1 rfl (lv_room (Nat.le_of_ble_eq_true rfl)) dX1_nearestSquare_214 ⟨Nat.le_of_ble_eq_true rfl, Nat.le_of_ble_eq_true rfl⟩) hS (fun q _ h => h.elim) (fun q h => h.elim) (fun r214 u214 t H locs ht hvm hw214 hB hz hk hS => ?_)
          subst hw214
          rw [hQ]
          exact W.lret (v := (f_X1_bitsOf v210_19 v210_23)) hx hb hr (fun t ht hW => ⟨⟨(f_X1_bitsOf v210_19 v210_23), (), rfl, (hR.trans (by simp only [g_X1_nearestSquare_210])), trivial⟩, hS.F ht⟩) hS.2.2 dX1_nearestSquare_217
        refine W.lcmp hx hb dX1_nearestSquare_192 ?_
        refine lv_if_ne (tgt := 210) hx hb dX1_nearestSquare_193 (by decide) (fun c192 => ?_) (fun c192 => ?_)
        · skip
          have c192 : ¬ ((v177_19 : Int64) = 9007199254740992) := fun h => c192 ((lg_cmp_eq _ _).mpr h)
          exact J210 v177_19 ((2 * (p1 - (53 - (f_X1_lengthOf p0)))) + w107_0) ls _ _ (lv_sub hl [1, 2, 3, 4, 5, 6, 7, 8, 9, 10, 11, 12, 13, 0] rfl) hS (hR.trans (by simp only [g_X1_nearestSquare_177, if_neg c192]))
        · skip
          have c192 : (v177_19 : Int64) = 9007199254740992 := (lg_cmp_eq _ _).mp c192
          refine lv_lload hx hb dX1_nearestSquare_196 (lv_at hl 12 rfl) ?_
          refine lv_ldc2 (v := 2) hx hb hown (hts (.constantLong RX1 43 2) (by decide +kernel)) dX1_nearestSquare_198 ?_
          refine lv_ldiv hx hb dX1_nearestSquare_201 (by decide) ?_
          refine lv_lstore (lv' := [(19, .long (v177_19 / 2)), (23, .int ((2 * (p1 - (53 - (f_X1_lengthOf p0)))) + w107_0)), (0, .long p0), (2, .int p1), (3, .int (53 - (f_X1_lengthOf p0))), (4, .long (p0 <<< (((53 - (f_X1_lengthOf p0)) : Int32).toInt64 &&& 63))), (6, .long x26), (8, .long x34), (10, .long ((2 * x26) * x34)), (12, .long (x62 - x62 / 18014398509481984 * 18014398509481984)), (14, .long x81), (16, .int w107_0), (17, .long ((1 : Int64) <<< (((w107_0 - 1) : Int32).toInt64 &&& 63))), (21, .long x142)]) hx hb dX1_nearestSquare_202 hl (by decide) rfl (fun ls hl => ?_)
          refine lv_iload hx hb dX1_nearestSquare_204 (lv_at hl 1 rfl) ?_
          refine lv_iconst (v := 1) hx hb dX1_nearestSquare_206 (by decide) ?_
          refine lv_iadd hx hb dX1_nearestSquare_207 ?_
          refine lv_istore (lv' := [(23, .int (((2 * (p1 - (53 - (f_X1_lengthOf p0)))) + w107_0) + 1)), (19, .long (v177_19 / 2)), (0, .long p0), (2, .int p1), (3, .int (53 - (f_X1_lengthOf p0))), (4, .long (p0 <<< (((53 - (f_X1_lengthOf p0)) : Int32).toInt64 &&& 63))), (6, .long x26), (8, .long x34), (10, .long ((2 * x26) * x34)), (12, .long (x62 - x62 / 18014398509481984 * 18014398509481984)), (14, .long x81), (16, .int w107_0), (17, .long ((1 : Int64) <<< (((w107_0 - 1) : Int32).toInt64 &&& 63))), (21, .long x142)]) hx hb dX1_nearestSquare_208 hl (by decide) rfl (fun ls hl => ?_)
          exact J210 (v177_19 / 2) (((2 * (p1 - (53 - (f_X1_lengthOf p0)))) + w107_0) + 1) ls _ _ (lv_sub hl [2, 3, 4, 5, 6, 7, 8, 9, 10, 11, 12, 1, 13, 0] rfl) hS (hR.trans (by simp only [g_X1_nearestSquare_177, if_pos c192]))
      have J171 : ∀ (ls : Array Slot) (H : Heap) (locs : List Loc), lv_has ls 24 [(0, .long p0), (2, .int p1), (3, .int (53 - (f_X1_lengthOf p0))), (4, .long (p0 <<< (((53 - (f_X1_lengthOf p0)) : Int32).toInt64 &&& 63))), (6, .long x26), (8, .long x34), (10, .long ((2 * x26) * x34)), (12, .long (x62 - x62 / 18014398509481984 * 18014398509481984)), (14, .long x81), (16, .int w107_0), (17, .long ((1 : Int64) <<< (((w107_0 - 1) : Int32).toInt64 &&& 63))), (19, .long x131), (21, .long x142)] → va_S (fun _ => False) s.heap H locs → f_X1_nearestSquare p0 p1 = g_X1_nearestSquare_171 p0 p1 w107_0 x131 → W p l e (headSpec wsX1_nearestSquare ({ frames := 2, cells := 0, slots := 0, locals := 49 } : Room)).room s m ([.long p0, .int p1] : List Value).toArray below meth c H locs 0 0 Q (F0 m 171 ls []) := by
        intro ls H locs hl hS hR
        refine lv_lload hx hb dX1_nearestSquare_171 (lv_at hl 11 rfl) ?_
        refine lv_lconst (v := 1) hx hb dX1_nearestSquare_173 rfl ?_
        refine lv_ladd hx hb dX1_nearestSquare_174 ?_
        refine lv_lstore (lv' := [(19, .long (x131 + 1)), (0, .long p0), (2, .int p1), (3, .int (53 - (f_X1_lengthOf p0))), (4, .long (p0 <<< (((53 - (f_X1_lengthOf p0)) : Int32).toInt64 &&& 63))), (6, .long x26), (8, .long x34), (10, .long ((2 * x26) * x34)), (12, .long (x62 - x62 / 18014398509481984 * 18014398509481984)), (14, .long x81), (16, .int w107_0), (17, .long ((1 : Int64) <<< (((w107_0 - 1) : Int32).toInt64 &&& 63))), (21, .long x142)]) hx hb dX1_nearestSquare_175 hl (by decide) rfl (fun ls hl => ?_)
        exact J177 (x131 + 1) ls _ _ (lv_sub hl [1, 2, 3, 4, 5, 6, 7, 8, 9, 10, 11, 0, 12] rfl) hS (hR.trans (by simp only [g_X1_nearestSquare_171]))
      refine W.lcmp hx hb dX1_nearestSquare_148 ?_
      refine lv_if_gt (tgt := 171) hx hb dX1_nearestSquare_149 (by decide) (fun c148 => ?_) (fun c148 => ?_)
      · skip
        have c148 : (((1 : Int64) <<< (((w107_0 - 1) : Int32).toInt64 &&& 63)) : Int64) < x142 := (lg_cmp_gt _ _).mp c148
        exact J171 ls _ _ (lv_sub hl [4, 5, 6, 7, 8, 9, 10, 11, 12, 3, 2, 1, 0] rfl) hS (hR.trans (by simp only [g_X1_nearestSquare_142n, if_pos c148]))
      · skip
        have c148 : ¬ ((((1 : Int64) <<< (((w107_0 - 1) : Int32).toInt64 &&& 63)) : Int64) < x142) := fun h => c148 ((lg_cmp_gt _ _).mpr h)
        refine lv_lload hx hb dX1_nearestSquare_152 (lv_at hl 0 rfl) ?_
        refine lv_lload hx hb dX1_nearestSquare_154 (lv_at hl 2 rfl) ?_
        refine W.lcmp hx hb dX1_nearestSquare_156 ?_
        refine lv_if_ne (tgt := 177) hx hb dX1_nearestSquare_157 (by decide) (fun c156 => ?_) (fun c156 => ?_)
        · skip
          have c156 : ¬ ((x142 : Int64) = ((1 : Int64) <<< (((w107_0 - 1) : Int32).toInt64 &&& 63))) := fun h => c156 ((lg_cmp_eq _ _).mpr h)
          exact J177 x131 ls _ _ (lv_sub hl [4, 5, 6, 7, 8, 9, 10, 11, 12, 3, 2, 1, 0] rfl) hS (hR.trans (by simp only [g_X1_nearestSquare_142n, if_neg c148, if_neg c156]))
        · skip
          have c156 : (x142 : Int64) = ((1 : Int64) <<< (((w107_0 - 1) : Int32).toInt64 &&& 63)) := (lg_cmp_eq _ _).mp c156
          refine lv_lload hx hb dX1_nearestSquare_160 (lv_at hl 1 rfl) ?_
          refine lv_ldc2 (v := 2) hx hb hown (hts (.constantLong RX1 43 2) (by decide +kernel)) dX1_nearestSquare_162 ?_
          refine lv_lrem hx hb dX1_nearestSquare_165 (by decide) ?_
          refine lv_lconst (v := 1) hx hb dX1_nearestSquare_166 rfl ?_
          refine W.lcmp hx hb dX1_nearestSquare_167 ?_
          refine lv_if_ne (tgt := 177) hx hb dX1_nearestSquare_168 (by decide) (fun c167 => ?_) (fun c167 => ?_)
          · skip
            have c167 : ¬ (((x131 - x131 / 2 * 2) : Int64) = 1) := fun h => c167 ((lg_cmp_eq _ _).mpr h)
            exact J177 x131 ls _ _ (lv_sub hl [4, 5, 6, 7, 8, 9, 10, 11, 12, 3, 2, 1, 0] rfl) hS (hR.trans (by simp only [g_X1_nearestSquare_142n, if_neg c148, if_pos c156, if_neg c167]))
          · skip
            have c167 : ((x131 - x131 / 2 * 2) : Int64) = 1 := (lg_cmp_eq _ _).mp c167
            exact J171 ls _ _ (lv_sub hl [4, 5, 6, 7, 8, 9, 10, 11, 12, 3, 2, 1, 0] rfl) hS (hR.trans (by simp only [g_X1_nearestSquare_142n, if_neg c148, if_pos c156, if_pos c167]))
    refine W.lcmp hx hb dX1_nearestSquare_96 ?_
    refine lv_if_lt (tgt := 105) hx hb dX1_nearestSquare_97 (by decide) (fun c96 => ?_) (fun c96 => ?_)
    · skip
      have c96 : (x81 : Int64) < 2251799813685248 := (lg_cmp_lt _ _).mp c96
      refine lv_bipush (v := 52) hx hb dX1_nearestSquare_105 (by decide) ?_
      exact J107 52 ls _ _ (lv_sub hl [7, 8, 6, 5, 4, 3, 2, 0, 1] rfl) hS (Or.inr rfl) (hR.trans (by simp only [g_X1_nearestSquare_81n, if_pos c96]))
    · skip
      have c96 : ¬ ((x81 : Int64) < 2251799813685248) := fun h => c96 ((lg_cmp_lt _ _).mpr h)
      refine lv_bipush (v := 53) hx hb dX1_nearestSquare_100 (by decide) ?_
      refine lv_goto (tgt := 107) hx hb dX1_nearestSquare_102 (by decide) ?_
      exact J107 53 ls _ _ (lv_sub hl [7, 8, 6, 5, 4, 3, 2, 0, 1] rfl) hS (Or.inl rfl) (hR.trans (by simp only [g_X1_nearestSquare_81n, if_neg c96]))
  · skip
    have c2 : (p0 : Int64) = 0 := (lg_cmp_eq _ _).mp c2
    refine lv_lconst (v := 0) hx hb dX1_nearestSquare_6 rfl ?_
    rw [hQ]
    exact W.lret (v := 0) hx hb hr (fun t ht hW => ⟨⟨0, (), rfl, (hR.trans (by simp only [f_X1_nearestSquare, if_pos c2])), trivial⟩, hS.F ht⟩) hS.2.2 dX1_nearestSquare_7

def f_X1_square (p0 : Int64) : Int64 := (if (p0 : Int64) = 0 then 0 else (f_X1_nearestSquare ((p0 - p0 / 4503599627370496 * 4503599627370496) + 4503599627370496) ((((p0 / 4503599627370496) : Int64).toInt32) - 1075)))
set_option maxHeartbeats 4000000 in
set_option maxRecDepth 100000 in
theorem met_X1_square (l : Launch) (p0 : Int64) : Met l yX1_square wsX1_square ({ frames := 3, cells := 0, slots := 0, locals := 92 } : Room) (va_Pc [.long p0] (fun U => True)) (va_Ql (fun (r : Int64) (u : Unit) => f_X1_square p0 = r) (fun _ _ => True) (fun _ => False)) 0 0 (fun _ => False) := by
  refine Met.ofW (cc := cX1_square) (maxL := 2) (ret := (some .long)) (by decide) rfl ?_
  intro p e s m args below meth c s₁ B hml hv
  obtain ⟨rfl, -⟩ := hv
  have hx := B.exec
  have hb := B.bytes
  have hr := B.returns
  have hts := atoms_spec (ws := wsX1_square) B.pre
  have hown : s.vm.findClass RX1 = some m.cls := findClass_of_methodNamed B.named
  have hlocks := B.notSynchronized
  have hS : va_S (fun _ => False) s.heap s.heap [] := va_S.rf
  have hl := lv_entry ([.long p0]) (n := 2) (Nat.le_of_ble_eq_true rfl)
  rw [lg_entry_eq]
  generalize (lg_sl ([.long p0]) ++ List.replicate (2 - (lg_sl ([.long p0])).length) Slot.unset).toArray = ls at hl ⊢
  have hl : lv_has ls 2 [(0, .long p0)] := hl
  obtain ⟨Q, hQ⟩ : ∃ Q : State → Prop, Q = (MQ below (va_Ql (fun (r : Int64) (u : Unit) => f_X1_square p0 = r) (fun _ _ => True) (fun _ => False)) ([.long p0] : List Value).toArray s 0 0 (fun _ => False)) := ⟨_, rfl⟩
  rw [← hQ]
  have hR : f_X1_square p0 = f_X1_square p0 := rfl
  refine lv_lload_n hx hb dX1_square_0 rfl (lv_at hl 0 rfl) ?_
  refine lv_lconst (v := 0) hx hb dX1_square_1 rfl ?_
  refine W.lcmp hx hb dX1_square_2 ?_
  refine lv_if_ne (tgt := 10) hx hb dX1_square_3 (by decide) (fun c2 => ?_) (fun c2 => ?_)
  · skip
    have c2 : ¬ ((p0 : Int64) = 0) := fun h => c2 ((lg_cmp_eq _ _).mpr h)
    refine lv_lload_n hx hb dX1_square_10 rfl (lv_at hl 0 rfl) ?_
    refine lv_ldc2 (v := 4503599627370496) hx hb hown (hts (.constantLong RX1 49 4503599627370496) (by decide +kernel)) dX1_square_11 ?_
    refine lv_lrem hx hb dX1_square_14 (by decide) ?_
    refine lv_ldc2 (v := 4503599627370496) hx hb hown (hts (.constantLong RX1 49 4503599627370496) (by decide +kernel)) dX1_square_15 ?_
    refine lv_ladd hx hb dX1_square_18 ?_
    refine lv_lload_n hx hb dX1_square_19 rfl (lv_at hl 0 rfl) ?_
    refine lv_ldc2 (v := 4503599627370496) hx hb hown (hts (.constantLong RX1 49 4503599627370496) (by decide +kernel)) dX1_square_20 ?_
    refine lv_ldiv hx hb dX1_square_23 (by decide) ?_
    refine lv_l2i hx hb dX1_square_24 rfl ?_
    refine lv_sipush (v := 1075) hx hb dX1_square_25 (by decide) ?_
    refine lv_isub hx hb dX1_square_28 ?_
    refine va_calll (va_runS (As := [.long ((p0 - p0 / 4503599627370496 * 4503599627370496) + 4503599627370496), .int ((((p0 / 4503599627370496) : Int64).toInt32) - 1075)]) (rest := []) ⟨hx, hb, hml, hown, hts⟩ (met_X1_nearestSquare l ((p0 - p0 / 4503599627370496 * 4503599627370496) + 4503599627370496) ((((p0 / 4503599627370496) : Int64).toInt32) - 1075)) (va_cwS 2 hts gX1_square_X1_nearestSquare rfl rfl rfl (by decide +kernel) ⟨Nat.le_of_ble_eq_true rfl, Nat.le_of_ble_eq_true rfl⟩) ⟨fun a U g mk q => q, fun U hU hW => ⟨rfl, trivial⟩⟩ rfl rfl hl.1 rfl (lv_room (Nat.le_of_ble_eq_true rfl)) dX1_square_29 ⟨Nat.le_of_ble_eq_true rfl, Nat.le_of_ble_eq_true rfl⟩) hS (fun q _ h => h.elim) (fun q h => h.elim) (fun r29 u29 t H locs ht hvm hw29 hB hz hk hS => ?_)
    subst hw29
    rw [hQ]
    exact W.lret (v := (f_X1_nearestSquare ((p0 - p0 / 4503599627370496 * 4503599627370496) + 4503599627370496) ((((p0 / 4503599627370496) : Int64).toInt32) - 1075))) hx hb hr (fun t ht hW => ⟨⟨(f_X1_nearestSquare ((p0 - p0 / 4503599627370496 * 4503599627370496) + 4503599627370496) ((((p0 / 4503599627370496) : Int64).toInt32) - 1075)), (), rfl, (hR.trans (by simp only [f_X1_square, if_neg c2])), trivial⟩, hS.F ht⟩) hS.2.2 dX1_square_32
  · skip
    have c2 : (p0 : Int64) = 0 := (lg_cmp_eq _ _).mp c2
    refine lv_lconst (v := 0) hx hb dX1_square_6 rfl ?_
    refine lv_goto (tgt := 32) hx hb dX1_square_7 (by decide) ?_
    rw [hQ]
    exact W.lret (v := 0) hx hb hr (fun t ht hW => ⟨⟨0, (), rfl, (hR.trans (by simp only [f_X1_square, if_pos c2])), trivial⟩, hS.F ht⟩) hS.2.2 dX1_square_32

def f_X1_rootBits (T : pT) (p0 : Int32) : Int64 × pT := (match f_X1_no T (f_X1_isFrom p0 0 4095) 1 with | (r10, u10) => (if (r10 : Int32) = 0 then ((f_X1_nearestRoot p0), u10) else (0, u10)))
set_option maxHeartbeats 4000000 in
set_option maxRecDepth 100000 in
theorem met_X1_rootBits (l : Launch) (D : va_G) (cI cJ : ClassId) (bd : Nat → Nat) (A : Nat → Prop) (T : pT) (p0 : Int32) : Met l yX1_rootBits wsX1_rootBits ({ frames := 3, cells := 0, slots := 0, locals := 74 } : Room) (va_Pc [.ref (bd 0), .int p0] (fun U => b1R D cI cJ bd T U ∧ va_D A (mmW cI cJ bd T))) (va_Ql (fun (r : Int64) (u : pT) => f_X1_rootBits T p0 = (r, u)) (fun (u : pT) t => va_P D pCl (mmW cI cJ bd u) t.heap ∧ va_D A (mmW cI cJ bd u)) A) 0 0 A := by
  refine Met.ofW (cc := cX1_rootBits) (maxL := 2) (ret := (some .long)) (by decide) rfl ?_
  intro p e s m args below meth c s₁ B hml hv
  obtain ⟨rfl, ⟨hP, hK⟩, hD⟩ := hv
  have hx := B.exec
  have hb := B.bytes
  have hr := B.returns
  have hts := atoms_spec (ws := wsX1_rootBits) B.pre
  have hown : s.vm.findClass RX1 = some m.cls := findClass_of_methodNamed B.named
  have hlocks := B.notSynchronized
  have hS : va_S A s.heap s.heap [] := va_S.rf
  have hl := lv_entry ([.ref (bd 0), .int p0]) (n := 2) (Nat.le_of_ble_eq_true rfl)
  rw [lg_entry_eq]
  generalize (lg_sl ([.ref (bd 0), .int p0]) ++ List.replicate (2 - (lg_sl ([.ref (bd 0), .int p0])).length) Slot.unset).toArray = ls at hl ⊢
  have hl : lv_has ls 2 [(0, .ref (bd 0)), (1, .int p0)] := hl
  obtain ⟨Q, hQ⟩ : ∃ Q : State → Prop, Q = (MQ below (va_Ql (fun (r : Int64) (u : pT) => f_X1_rootBits T p0 = (r, u)) (fun (u : pT) t => va_P D pCl (mmW cI cJ bd u) t.heap ∧ va_D A (mmW cI cJ bd u)) A) ([.ref (bd 0), .int p0] : List Value).toArray s 0 0 A) := ⟨_, rfl⟩
  rw [← hQ]
  have hR : f_X1_rootBits T p0 = f_X1_rootBits T p0 := rfl
  refine lv_aload_n hx hb dX1_rootBits_0 rfl (lv_at hl 0 rfl) ?_
  refine lv_iload_n hx hb dX1_rootBits_1 rfl (lv_at hl 1 rfl) ?_
  refine lv_iconst (v := 0) hx hb dX1_rootBits_2 (by decide) ?_
  refine lv_sipush (v := 4095) hx hb dX1_rootBits_3 (by decide) ?_
  refine va_calli (va_runS (As := [.int p0, .int 0, .int 4095]) (rest := [.ref (bd 0)]) ⟨hx, hb, hml, hown, hts⟩ (met_X1_isFrom l p0 0 4095) (va_cwS 3 hts gX1_rootBits_X1_isFrom rfl rfl rfl (by decide +kernel) ⟨Nat.le_of_ble_eq_true rfl, Nat.le_of_ble_eq_true rfl⟩) ⟨fun a U g mk q => q, fun U hU hW => ⟨rfl, trivial⟩⟩ rfl rfl hl.1 rfl (lv_room (Nat.le_of_ble_eq_true rfl)) dX1_rootBits_6 ⟨Nat.le_of_ble_eq_true rfl, Nat.le_of_ble_eq_true rfl⟩) hS (fun q _ h => h.elim) (fun q h => h.elim) (fun r6 u6 t H locs ht hvm hw6 hB hz hk hS => ?_)
  obtain ⟨hw6, bz6⟩ := hw6
  subst hw6
  have hP := hP.kept (fun k q hk9 => hk _ (vx_lt hP hk9) (fun h => h))
  refine lv_iconst (v := 1) hx hb dX1_rootBits_9 (by decide) ?_
  refine va_calli (va_runV (As := [.int (f_X1_isFrom p0 0 4095), .int 1]) (rest := []) ⟨hx, hb, hml, hown, hts⟩ (met_X1_no l D cI cJ bd A T (f_X1_isFrom p0 0 4095) 1) (cwV 2 hts gX1_rootBits_X1_no rfl rfl rfl (by decide +kernel) ⟨Nat.le_of_ble_eq_true rfl, Nat.le_of_ble_eq_true rfl⟩) ⟨fun a U g mk q => ⟨q.1, b1R_calling q.2.1, q.2.2⟩, va_recv hK hP (ci := 1) (q0 := 0) rfl rfl, fun U hU hW => ⟨rfl, b1R_at hP hK hU hW, hD⟩⟩ rfl rfl hl.1 rfl (lv_room (Nat.le_of_ble_eq_true rfl)) dX1_rootBits_10 ⟨Nat.le_of_ble_eq_true rfl, Nat.le_of_ble_eq_true rfl⟩) hS (fun q _ h => h) (fun q h => h) (fun r10 u10 t H locs ht hvm hw10 hB hz hk hS => ?_)
  obtain ⟨hw10, bz10⟩ := hw10
  obtain ⟨hP, hD⟩ := hB
  rw [ht] at hP
  refine lv_if_eq (tgt := 20) hx hb dX1_rootBits_13 (by decide) (fun c13 => ?_) (fun c13 => ?_)
  · skip
    refine lv_iload_n hx hb dX1_rootBits_20 rfl (lv_at hl 1 rfl) ?_
    refine va_calll (va_runS (As := [.int p0]) (rest := []) ⟨hx, hb, hml, hown, hts⟩ (met_X1_nearestRoot l p0 (from_nn (no_ok hw10 c13))) (va_cwS 1 hts gX1_rootBits_X1_nearestRoot rfl rfl rfl (by decide +kernel) ⟨Nat.le_of_ble_eq_true rfl, Nat.le_of_ble_eq_true rfl⟩) ⟨fun a U g mk q => q, fun U hU hW => ⟨rfl, trivial⟩⟩ rfl rfl hl.1 rfl (lv_room (Nat.le_of_ble_eq_true rfl)) dX1_rootBits_21 ⟨Nat.le_of_ble_eq_true rfl, Nat.le_of_ble_eq_true rfl⟩) hS (fun q _ h => h.elim) (fun q h => h.elim) (fun r21 u21 t H locs ht hvm hw21 hB hz hk hS => ?_)
    subst hw21
    have hP := hP.kept (fun k q hk9 => hk _ (vx_lt hP hk9) (fun h => h))
    rw [hQ]
    exact W.lret (v := (f_X1_nearestRoot p0)) hx hb hr (fun t ht hW => ⟨⟨(f_X1_nearestRoot p0), u10, rfl, (hR.trans (by simp only [f_X1_rootBits, hw10, if_pos c13])), by rw [ht]; exact hP, hD⟩, hS.F ht⟩) hS.2.2 dX1_rootBits_24
  · skip
    refine lv_lconst (v := 0) hx hb dX1_rootBits_16 rfl ?_
    refine lv_goto (tgt := 24) hx hb dX1_rootBits_17 (by decide) ?_
    rw [hQ]
    exact W.lret (v := 0) hx hb hr (fun t ht hW => ⟨⟨0, u10, rfl, (hR.trans (by simp only [f_X1_rootBits, hw10, if_neg c13])), by rw [ht]; exact hP, hD⟩, hS.F ht⟩) hS.2.2 dX1_rootBits_24

def f_X1_isRoot (T : pT) (p0 : Int32) : Int32 × pT := (match f_X1_no T (f_X1_isFrom p0 0 4095) 1 with | (r10, u10) => (if (r10 : Int32) = 0 then (1, u10) else (0, u10)))
set_option maxHeartbeats 4000000 in
set_option maxRecDepth 100000 in
theorem met_X1_isRoot (l : Launch) (D : va_G) (cI cJ : ClassId) (bd : Nat → Nat) (A : Nat → Prop) (T : pT) (p0 : Int32) : Met l yX1_isRoot wsX1_isRoot ({ frames := 1, cells := 0, slots := 0, locals := 22 } : Room) (va_Pc [.ref (bd 0), .int p0] (fun U => b1R D cI cJ bd T U ∧ va_D A (mmW cI cJ bd T))) (va_Qi (fun (r : Int32) (u : pT) => f_X1_isRoot T p0 = (r, u) ∧ (r = 0 ∨ r = 1)) (fun (u : pT) t => va_P D pCl (mmW cI cJ bd u) t.heap ∧ va_D A (mmW cI cJ bd u)) A) 0 0 A := by
  refine Met.ofW (cc := cX1_isRoot) (maxL := 2) (ret := (some .boolean)) (by decide) rfl ?_
  intro p e s m args below meth c s₁ B hml hv
  obtain ⟨rfl, ⟨hP, hK⟩, hD⟩ := hv
  have hx := B.exec
  have hb := B.bytes
  have hr := B.returns
  have hts := atoms_spec (ws := wsX1_isRoot) B.pre
  have hown : s.vm.findClass RX1 = some m.cls := findClass_of_methodNamed B.named
  have hlocks := B.notSynchronized
  have hS : va_S A s.heap s.heap [] := va_S.rf
  have hl := lv_entry ([.ref (bd 0), .int p0]) (n := 2) (Nat.le_of_ble_eq_true rfl)
  rw [lg_entry_eq]
  generalize (lg_sl ([.ref (bd 0), .int p0]) ++ List.replicate (2 - (lg_sl ([.ref (bd 0), .int p0])).length) Slot.unset).toArray = ls at hl ⊢
  have hl : lv_has ls 2 [(0, .ref (bd 0)), (1, .int p0)] := hl
  obtain ⟨Q, hQ⟩ : ∃ Q : State → Prop, Q = (MQ below (va_Qi (fun (r : Int32) (u : pT) => f_X1_isRoot T p0 = (r, u) ∧ (r = 0 ∨ r = 1)) (fun (u : pT) t => va_P D pCl (mmW cI cJ bd u) t.heap ∧ va_D A (mmW cI cJ bd u)) A) ([.ref (bd 0), .int p0] : List Value).toArray s 0 0 A) := ⟨_, rfl⟩
  rw [← hQ]
  have hR : f_X1_isRoot T p0 = f_X1_isRoot T p0 := rfl
  refine lv_aload_n hx hb dX1_isRoot_0 rfl (lv_at hl 0 rfl) ?_
  refine lv_iload_n hx hb dX1_isRoot_1 rfl (lv_at hl 1 rfl) ?_
  refine lv_iconst (v := 0) hx hb dX1_isRoot_2 (by decide) ?_
  refine lv_sipush (v := 4095) hx hb dX1_isRoot_3 (by decide) ?_
  refine va_calli (va_runS (As := [.int p0, .int 0, .int 4095]) (rest := [.ref (bd 0)]) ⟨hx, hb, hml, hown, hts⟩ (met_X1_isFrom l p0 0 4095) (va_cwS 3 hts gX1_isRoot_X1_isFrom rfl rfl rfl (by decide +kernel) ⟨Nat.le_of_ble_eq_true rfl, Nat.le_of_ble_eq_true rfl⟩) ⟨fun a U g mk q => q, fun U hU hW => ⟨rfl, trivial⟩⟩ rfl rfl hl.1 rfl (lv_room (Nat.le_of_ble_eq_true rfl)) dX1_isRoot_6 ⟨Nat.le_of_ble_eq_true rfl, Nat.le_of_ble_eq_true rfl⟩) hS (fun q _ h => h.elim) (fun q h => h.elim) (fun r6 u6 t H locs ht hvm hw6 hB hz hk hS => ?_)
  obtain ⟨hw6, bz6⟩ := hw6
  subst hw6
  have hP := hP.kept (fun k q hk9 => hk _ (vx_lt hP hk9) (fun h => h))
  refine lv_iconst (v := 1) hx hb dX1_isRoot_9 (by decide) ?_
  refine va_calli (va_runV (As := [.int (f_X1_isFrom p0 0 4095), .int 1]) (rest := []) ⟨hx, hb, hml, hown, hts⟩ (met_X1_no l D cI cJ bd A T (f_X1_isFrom p0 0 4095) 1) (cwV 2 hts gX1_isRoot_X1_no rfl rfl rfl (by decide +kernel) ⟨Nat.le_of_ble_eq_true rfl, Nat.le_of_ble_eq_true rfl⟩) ⟨fun a U g mk q => ⟨q.1, b1R_calling q.2.1, q.2.2⟩, va_recv hK hP (ci := 1) (q0 := 0) rfl rfl, fun U hU hW => ⟨rfl, b1R_at hP hK hU hW, hD⟩⟩ rfl rfl hl.1 rfl (lv_room (Nat.le_of_ble_eq_true rfl)) dX1_isRoot_10 ⟨Nat.le_of_ble_eq_true rfl, Nat.le_of_ble_eq_true rfl⟩) hS (fun q _ h => h) (fun q h => h) (fun r10 u10 t H locs ht hvm hw10 hB hz hk hS => ?_)
  obtain ⟨hw10, bz10⟩ := hw10
  obtain ⟨hP, hD⟩ := hB
  rw [ht] at hP
  refine lv_if_ne (tgt := 20) hx hb dX1_isRoot_13 (by decide) (fun c13 => ?_) (fun c13 => ?_)
  · skip
    refine lv_iconst (v := 0) hx hb dX1_isRoot_20 (by decide) ?_
    rw [hQ]
    exact W.zret (ty := .boolean) (v := 0) hx hb hr (nbool (Or.inl rfl)) (fun t ht hW => ⟨⟨0, u10, rfl, ⟨(hR.trans (by simp only [f_X1_isRoot, hw10, if_neg c13])), (Or.inl rfl)⟩, by rw [ht]; exact hP, hD⟩, hS.F ht⟩) hS.2.2 dX1_isRoot_21
  · skip
    refine lv_iconst (v := 1) hx hb dX1_isRoot_16 (by decide) ?_
    refine lv_goto (tgt := 21) hx hb dX1_isRoot_17 (by decide) ?_
    rw [hQ]
    exact W.zret (ty := .boolean) (v := 1) hx hb hr (nbool (Or.inr rfl)) (fun t ht hW => ⟨⟨1, u10, rfl, ⟨(hR.trans (by simp only [f_X1_isRoot, hw10, if_pos c13])), (Or.inr rfl)⟩, by rw [ht]; exact hP, hD⟩, hS.F ht⟩) hS.2.2 dX1_isRoot_21

def g_X1_rootAt_27 (T : pT) (p0 : Int32) (p1 : Int32) (w27_0 : Int32) : Int64 × pT := (match f_X1_no T w27_0 1 with | (r28, u28) => (if (r28 : Int32) = 0 then ((f_X1_rootOf (((p0 : Int32).toInt64) <<< (((2 * p1) : Int32).toInt64 &&& 63))), u28) else (0, u28)))
def g_X1_rootAt_26 (T : pT) (p0 : Int32) (p1 : Int32) : Int64 × pT := (g_X1_rootAt_27 T p0 p1 0)
def f_X1_rootAt (T : pT) (p0 : Int32) (p1 : Int32) : Int64 × pT := (if ((f_X1_isFrom p0 0 4095) : Int32) = 0 then (g_X1_rootAt_26 T p0 p1) else (if ((f_X1_isFrom p1 0 16) : Int32) = 0 then (g_X1_rootAt_26 T p0 p1) else (g_X1_rootAt_27 T p0 p1 1)))
set_option maxHeartbeats 4000000 in
set_option maxRecDepth 100000 in
theorem met_X1_rootAt (l : Launch) (D : va_G) (cI cJ : ClassId) (bd : Nat → Nat) (A : Nat → Prop) (T : pT) (p0 : Int32) (p1 : Int32) : Met l yX1_rootAt wsX1_rootAt ({ frames := 1, cells := 0, slots := 0, locals := 26 } : Room) (va_Pc [.ref (bd 0), .int p0, .int p1] (fun U => b1R D cI cJ bd T U ∧ va_D A (mmW cI cJ bd T))) (va_Ql (fun (r : Int64) (u : pT) => f_X1_rootAt T p0 p1 = (r, u)) (fun (u : pT) t => va_P D pCl (mmW cI cJ bd u) t.heap ∧ va_D A (mmW cI cJ bd u)) A) 0 0 A := by
  refine Met.ofW (cc := cX1_rootAt) (maxL := 3) (ret := (some .long)) (by decide) rfl ?_
  intro p e s m args below meth c s₁ B hml hv
  obtain ⟨rfl, ⟨hP, hK⟩, hD⟩ := hv
  have hx := B.exec
  have hb := B.bytes
  have hr := B.returns
  have hts := atoms_spec (ws := wsX1_rootAt) B.pre
  have hown : s.vm.findClass RX1 = some m.cls := findClass_of_methodNamed B.named
  have hlocks := B.notSynchronized
  have hS : va_S A s.heap s.heap [] := va_S.rf
  have hl := lv_entry ([.ref (bd 0), .int p0, .int p1]) (n := 3) (Nat.le_of_ble_eq_true rfl)
  rw [lg_entry_eq]
  generalize (lg_sl ([.ref (bd 0), .int p0, .int p1]) ++ List.replicate (3 - (lg_sl ([.ref (bd 0), .int p0, .int p1])).length) Slot.unset).toArray = ls at hl ⊢
  have hl : lv_has ls 3 [(0, .ref (bd 0)), (1, .int p0), (2, .int p1)] := hl
  obtain ⟨Q, hQ⟩ : ∃ Q : State → Prop, Q = (MQ below (va_Ql (fun (r : Int64) (u : pT) => f_X1_rootAt T p0 p1 = (r, u)) (fun (u : pT) t => va_P D pCl (mmW cI cJ bd u) t.heap ∧ va_D A (mmW cI cJ bd u)) A) ([.ref (bd 0), .int p0, .int p1] : List Value).toArray s 0 0 A) := ⟨_, rfl⟩
  rw [← hQ]
  have hR : f_X1_rootAt T p0 p1 = f_X1_rootAt T p0 p1 := rfl
  refine lv_aload_n hx hb dX1_rootAt_0 rfl (lv_at hl 0 rfl) ?_
  refine lv_iload_n hx hb dX1_rootAt_1 rfl (lv_at hl 1 rfl) ?_
  refine lv_iconst (v := 0) hx hb dX1_rootAt_2 (by decide) ?_
  refine lv_sipush (v := 4095) hx hb dX1_rootAt_3 (by decide) ?_
  refine va_calli (va_runS (As := [.int p0, .int 0, .int 4095]) (rest := [.ref (bd 0)]) ⟨hx, hb, hml, hown, hts⟩ (met_X1_isFrom l p0 0 4095) (va_cwS 3 hts gX1_rootAt_X1_isFrom rfl rfl rfl (by decide +kernel) ⟨Nat.le_of_ble_eq_true rfl, Nat.le_of_ble_eq_true rfl⟩) ⟨fun a U g mk q => q, fun U hU hW => ⟨rfl, trivial⟩⟩ rfl rfl hl.1 rfl (lv_room (Nat.le_of_ble_eq_true rfl)) dX1_rootAt_6 ⟨Nat.le_of_ble_eq_true rfl, Nat.le_of_ble_eq_true rfl⟩) hS (fun q _ h => h.elim) (fun q h => h.elim) (fun r6 u6 t H locs ht hvm hw6 hB hz hk hS => ?_)
  obtain ⟨hw6, bz6⟩ := hw6
  subst hw6
  have hP := hP.kept (fun k q hk9 => hk _ (vx_lt hP hk9) (fun h => h))
  have J27 : ∀ (w27_0 : Int32) (ls : Array Slot) (H : Heap) (locs : List Loc), lv_has ls 3 [(0, .ref (bd 0)), (1, .int p0), (2, .int p1)] → va_S A s.heap H locs → va_P D pCl (mmW cI cJ bd T) H → va_D A (mmW cI cJ bd T) → (w27_0 = 0 ∨ w27_0 = 1) → f_X1_rootAt T p0 p1 = g_X1_rootAt_27 T p0 p1 w27_0 → W p l e (headSpec wsX1_rootAt ({ frames := 1, cells := 0, slots := 0, locals := 26 } : Room)).room s m ([.ref (bd 0), .int p0, .int p1] : List Value).toArray below meth c H locs 0 0 Q (F0 m 27 ls [.int w27_0, .ref (bd 0)]) := by
    intro w27_0 ls H locs hl hS hP hD hb_w27_0 hR
    refine lv_iconst (v := 1) hx hb dX1_rootAt_27 (by decide) ?_
    refine va_calli (va_runV (As := [.int w27_0, .int 1]) (rest := []) ⟨hx, hb, hml, hown, hts⟩ (met_X1_no l D cI cJ bd A T w27_0 1) (cwV 2 hts gX1_rootAt_X1_no rfl rfl rfl (by decide +kernel) ⟨Nat.le_of_ble_eq_true rfl, Nat.le_of_ble_eq_true rfl⟩) ⟨fun a U g mk q => ⟨q.1, b1R_calling q.2.1, q.2.2⟩, va_recv hK hP (ci := 1) (q0 := 0) rfl rfl, fun U hU hW => ⟨rfl, b1R_at hP hK hU hW, hD⟩⟩ rfl rfl hl.1 rfl (lv_room (Nat.le_of_ble_eq_true rfl)) dX1_rootAt_28 ⟨Nat.le_of_ble_eq_true rfl, Nat.le_of_ble_eq_true rfl⟩) hS (fun q _ h => h) (fun q h => h) (fun r28 u28 t H locs ht hvm hw28 hB hz hk hS => ?_)
    obtain ⟨hw28, bz28⟩ := hw28
    obtain ⟨hP, hD⟩ := hB
    rw [ht] at hP
    refine lv_if_eq (tgt := 38) hx hb dX1_rootAt_31 (by decide) (fun c31 => ?_) (fun c31 => ?_)
    · skip
      refine lv_iload_n hx hb dX1_rootAt_38 rfl (lv_at hl 1 rfl) ?_
      refine lv_i2l hx hb dX1_rootAt_39 rfl ?_
      refine lv_iconst (v := 2) hx hb dX1_rootAt_40 (by decide) ?_
      refine lv_iload_n hx hb dX1_rootAt_41 rfl (lv_at hl 2 rfl) ?_
      refine lv_imul hx hb dX1_rootAt_42 ?_
      refine lv_lshl hx hb dX1_rootAt_43 rfl ?_
      refine va_calll (va_runS (As := [.long (((p0 : Int32).toInt64) <<< (((2 * p1) : Int32).toInt64 &&& 63))]) (rest := []) ⟨hx, hb, hml, hown, hts⟩ (met_X1_rootOf l (((p0 : Int32).toInt64) <<< (((2 * p1) : Int32).toInt64 &&& 63))) (va_cwS 1 hts gX1_rootAt_X1_rootOf rfl rfl rfl (by decide +kernel) ⟨Nat.le_of_ble_eq_true rfl, Nat.le_of_ble_eq_true rfl⟩) ⟨fun a U g mk q => q, fun U hU hW => ⟨rfl, trivial⟩⟩ rfl rfl hl.1 rfl (lv_room (Nat.le_of_ble_eq_true rfl)) dX1_rootAt_44 ⟨Nat.le_of_ble_eq_true rfl, Nat.le_of_ble_eq_true rfl⟩) hS (fun q _ h => h.elim) (fun q h => h.elim) (fun r44 u44 t H locs ht hvm hw44 hB hz hk hS => ?_)
      subst hw44
      have hP := hP.kept (fun k q hk9 => hk _ (vx_lt hP hk9) (fun h => h))
      rw [hQ]
      exact W.lret (v := (f_X1_rootOf (((p0 : Int32).toInt64) <<< (((2 * p1) : Int32).toInt64 &&& 63)))) hx hb hr (fun t ht hW => ⟨⟨(f_X1_rootOf (((p0 : Int32).toInt64) <<< (((2 * p1) : Int32).toInt64 &&& 63))), u28, rfl, (hR.trans (by simp only [g_X1_rootAt_27, hw28, if_pos c31])), by rw [ht]; exact hP, hD⟩, hS.F ht⟩) hS.2.2 dX1_rootAt_47
    · skip
      refine lv_lconst (v := 0) hx hb dX1_rootAt_34 rfl ?_
      refine lv_goto (tgt := 47) hx hb dX1_rootAt_35 (by decide) ?_
      rw [hQ]
      exact W.lret (v := 0) hx hb hr (fun t ht hW => ⟨⟨0, u28, rfl, (hR.trans (by simp only [g_X1_rootAt_27, hw28, if_neg c31])), by rw [ht]; exact hP, hD⟩, hS.F ht⟩) hS.2.2 dX1_rootAt_47
  have J26 : ∀ (ls : Array Slot) (H : Heap) (locs : List Loc), lv_has ls 3 [(0, .ref (bd 0)), (1, .int p0), (2, .int p1)] → va_S A s.heap H locs → va_P D pCl (mmW cI cJ bd T) H → va_D A (mmW cI cJ bd T) → f_X1_rootAt T p0 p1 = g_X1_rootAt_26 T p0 p1 → W p l e (headSpec wsX1_rootAt ({ frames := 1, cells := 0, slots := 0, locals := 26 } : Room)).room s m ([.ref (bd 0), .int p0, .int p1] : List Value).toArray below meth c H locs 0 0 Q (F0 m 26 ls [.ref (bd 0)]) := by
    intro ls H locs hl hS hP hD hR
    refine lv_iconst (v := 0) hx hb dX1_rootAt_26 (by decide) ?_
    exact J27 0 ls _ _ (lv_sub hl [0, 1, 2] rfl) hS hP hD (Or.inl rfl) (hR.trans (by simp only [g_X1_rootAt_26]))
  refine lv_if_eq (tgt := 26) hx hb dX1_rootAt_9 (by decide) (fun c9 => ?_) (fun c9 => ?_)
  · skip
    exact J26 ls _ _ (lv_sub hl [0, 1, 2] rfl) hS hP hD (hR.trans (by simp only [f_X1_rootAt, if_pos c9]))
  · skip
    refine lv_iload_n hx hb dX1_rootAt_12 rfl (lv_at hl 2 rfl) ?_
    refine lv_iconst (v := 0) hx hb dX1_rootAt_13 (by decide) ?_
    refine lv_bipush (v := 16) hx hb dX1_rootAt_14 (by decide) ?_
    refine va_calli (va_runS (As := [.int p1, .int 0, .int 16]) (rest := [.ref (bd 0)]) ⟨hx, hb, hml, hown, hts⟩ (met_X1_isFrom l p1 0 16) (va_cwS 3 hts gX1_rootAt_X1_isFrom rfl rfl rfl (by decide +kernel) ⟨Nat.le_of_ble_eq_true rfl, Nat.le_of_ble_eq_true rfl⟩) ⟨fun a U g mk q => q, fun U hU hW => ⟨rfl, trivial⟩⟩ rfl rfl hl.1 rfl (lv_room (Nat.le_of_ble_eq_true rfl)) dX1_rootAt_16 ⟨Nat.le_of_ble_eq_true rfl, Nat.le_of_ble_eq_true rfl⟩) hS (fun q _ h => h.elim) (fun q h => h.elim) (fun r16 u16 t H locs ht hvm hw16 hB hz hk hS => ?_)
    obtain ⟨hw16, bz16⟩ := hw16
    subst hw16
    have hP := hP.kept (fun k q hk9 => hk _ (vx_lt hP hk9) (fun h => h))
    refine lv_if_eq (tgt := 26) hx hb dX1_rootAt_19 (by decide) (fun c19 => ?_) (fun c19 => ?_)
    · skip
      exact J26 ls _ _ (lv_sub hl [0, 1, 2] rfl) hS hP hD (hR.trans (by simp only [f_X1_rootAt, if_neg c9, if_pos c19]))
    · skip
      refine lv_iconst (v := 1) hx hb dX1_rootAt_22 (by decide) ?_
      refine lv_goto (tgt := 27) hx hb dX1_rootAt_23 (by decide) ?_
      exact J27 1 ls _ _ (lv_sub hl [0, 1, 2] rfl) hS hP hD (Or.inr rfl) (hR.trans (by simp only [f_X1_rootAt, if_neg c9, if_neg c19]))

def f_X1_backBits (T : pT) (p0 : Int32) : Int64 × pT := (match f_X1_no T (f_X1_isFrom p0 0 4095) 1 with | (r10, u10) => (if (r10 : Int32) = 0 then ((f_X1_square (f_X1_nearestRoot p0)), u10) else (0, u10)))
set_option maxHeartbeats 4000000 in
set_option maxRecDepth 100000 in
theorem met_X1_backBits (l : Launch) (D : va_G) (cI cJ : ClassId) (bd : Nat → Nat) (A : Nat → Prop) (T : pT) (p0 : Int32) : Met l yX1_backBits wsX1_backBits ({ frames := 4, cells := 0, slots := 0, locals := 113 } : Room) (va_Pc [.ref (bd 0), .int p0] (fun U => b1R D cI cJ bd T U ∧ va_D A (mmW cI cJ bd T))) (va_Ql (fun (r : Int64) (u : pT) => f_X1_backBits T p0 = (r, u)) (fun (u : pT) t => va_P D pCl (mmW cI cJ bd u) t.heap ∧ va_D A (mmW cI cJ bd u)) A) 0 0 A := by
  refine Met.ofW (cc := cX1_backBits) (maxL := 2) (ret := (some .long)) (by decide) rfl ?_
  intro p e s m args below meth c s₁ B hml hv
  obtain ⟨rfl, ⟨hP, hK⟩, hD⟩ := hv
  have hx := B.exec
  have hb := B.bytes
  have hr := B.returns
  have hts := atoms_spec (ws := wsX1_backBits) B.pre
  have hown : s.vm.findClass RX1 = some m.cls := findClass_of_methodNamed B.named
  have hlocks := B.notSynchronized
  have hS : va_S A s.heap s.heap [] := va_S.rf
  have hl := lv_entry ([.ref (bd 0), .int p0]) (n := 2) (Nat.le_of_ble_eq_true rfl)
  rw [lg_entry_eq]
  generalize (lg_sl ([.ref (bd 0), .int p0]) ++ List.replicate (2 - (lg_sl ([.ref (bd 0), .int p0])).length) Slot.unset).toArray = ls at hl ⊢
  have hl : lv_has ls 2 [(0, .ref (bd 0)), (1, .int p0)] := hl
  obtain ⟨Q, hQ⟩ : ∃ Q : State → Prop, Q = (MQ below (va_Ql (fun (r : Int64) (u : pT) => f_X1_backBits T p0 = (r, u)) (fun (u : pT) t => va_P D pCl (mmW cI cJ bd u) t.heap ∧ va_D A (mmW cI cJ bd u)) A) ([.ref (bd 0), .int p0] : List Value).toArray s 0 0 A) := ⟨_, rfl⟩
  rw [← hQ]
  have hR : f_X1_backBits T p0 = f_X1_backBits T p0 := rfl
  refine lv_aload_n hx hb dX1_backBits_0 rfl (lv_at hl 0 rfl) ?_
  refine lv_iload_n hx hb dX1_backBits_1 rfl (lv_at hl 1 rfl) ?_
  refine lv_iconst (v := 0) hx hb dX1_backBits_2 (by decide) ?_
  refine lv_sipush (v := 4095) hx hb dX1_backBits_3 (by decide) ?_
  refine va_calli (va_runS (As := [.int p0, .int 0, .int 4095]) (rest := [.ref (bd 0)]) ⟨hx, hb, hml, hown, hts⟩ (met_X1_isFrom l p0 0 4095) (va_cwS 3 hts gX1_backBits_X1_isFrom rfl rfl rfl (by decide +kernel) ⟨Nat.le_of_ble_eq_true rfl, Nat.le_of_ble_eq_true rfl⟩) ⟨fun a U g mk q => q, fun U hU hW => ⟨rfl, trivial⟩⟩ rfl rfl hl.1 rfl (lv_room (Nat.le_of_ble_eq_true rfl)) dX1_backBits_6 ⟨Nat.le_of_ble_eq_true rfl, Nat.le_of_ble_eq_true rfl⟩) hS (fun q _ h => h.elim) (fun q h => h.elim) (fun r6 u6 t H locs ht hvm hw6 hB hz hk hS => ?_)
  obtain ⟨hw6, bz6⟩ := hw6
  subst hw6
  have hP := hP.kept (fun k q hk9 => hk _ (vx_lt hP hk9) (fun h => h))
  refine lv_iconst (v := 1) hx hb dX1_backBits_9 (by decide) ?_
  refine va_calli (va_runV (As := [.int (f_X1_isFrom p0 0 4095), .int 1]) (rest := []) ⟨hx, hb, hml, hown, hts⟩ (met_X1_no l D cI cJ bd A T (f_X1_isFrom p0 0 4095) 1) (cwV 2 hts gX1_backBits_X1_no rfl rfl rfl (by decide +kernel) ⟨Nat.le_of_ble_eq_true rfl, Nat.le_of_ble_eq_true rfl⟩) ⟨fun a U g mk q => ⟨q.1, b1R_calling q.2.1, q.2.2⟩, va_recv hK hP (ci := 1) (q0 := 0) rfl rfl, fun U hU hW => ⟨rfl, b1R_at hP hK hU hW, hD⟩⟩ rfl rfl hl.1 rfl (lv_room (Nat.le_of_ble_eq_true rfl)) dX1_backBits_10 ⟨Nat.le_of_ble_eq_true rfl, Nat.le_of_ble_eq_true rfl⟩) hS (fun q _ h => h) (fun q h => h) (fun r10 u10 t H locs ht hvm hw10 hB hz hk hS => ?_)
  obtain ⟨hw10, bz10⟩ := hw10
  obtain ⟨hP, hD⟩ := hB
  rw [ht] at hP
  refine lv_if_eq (tgt := 20) hx hb dX1_backBits_13 (by decide) (fun c13 => ?_) (fun c13 => ?_)
  · skip
    refine lv_iload_n hx hb dX1_backBits_20 rfl (lv_at hl 1 rfl) ?_
    refine va_calll (va_runS (As := [.int p0]) (rest := []) ⟨hx, hb, hml, hown, hts⟩ (met_X1_nearestRoot l p0 (from_nn (no_ok hw10 c13))) (va_cwS 1 hts gX1_backBits_X1_nearestRoot rfl rfl rfl (by decide +kernel) ⟨Nat.le_of_ble_eq_true rfl, Nat.le_of_ble_eq_true rfl⟩) ⟨fun a U g mk q => q, fun U hU hW => ⟨rfl, trivial⟩⟩ rfl rfl hl.1 rfl (lv_room (Nat.le_of_ble_eq_true rfl)) dX1_backBits_21 ⟨Nat.le_of_ble_eq_true rfl, Nat.le_of_ble_eq_true rfl⟩) hS (fun q _ h => h.elim) (fun q h => h.elim) (fun r21 u21 t H locs ht hvm hw21 hB hz hk hS => ?_)
    subst hw21
    have hP := hP.kept (fun k q hk9 => hk _ (vx_lt hP hk9) (fun h => h))
    refine va_calll (va_runS (As := [.long (f_X1_nearestRoot p0)]) (rest := []) ⟨hx, hb, hml, hown, hts⟩ (met_X1_square l (f_X1_nearestRoot p0)) (va_cwS 1 hts gX1_backBits_X1_square rfl rfl rfl (by decide +kernel) ⟨Nat.le_of_ble_eq_true rfl, Nat.le_of_ble_eq_true rfl⟩) ⟨fun a U g mk q => q, fun U hU hW => ⟨rfl, trivial⟩⟩ rfl rfl hl.1 rfl (lv_room (Nat.le_of_ble_eq_true rfl)) dX1_backBits_24 ⟨Nat.le_of_ble_eq_true rfl, Nat.le_of_ble_eq_true rfl⟩) hS (fun q _ h => h.elim) (fun q h => h.elim) (fun r24 u24 t H locs ht hvm hw24 hB hz hk hS => ?_)
    subst hw24
    have hP := hP.kept (fun k q hk9 => hk _ (vx_lt hP hk9) (fun h => h))
    rw [hQ]
    exact W.lret (v := (f_X1_square (f_X1_nearestRoot p0))) hx hb hr (fun t ht hW => ⟨⟨(f_X1_square (f_X1_nearestRoot p0)), u10, rfl, (hR.trans (by simp only [f_X1_backBits, hw10, if_pos c13])), by rw [ht]; exact hP, hD⟩, hS.F ht⟩) hS.2.2 dX1_backBits_27
  · skip
    refine lv_lconst (v := 0) hx hb dX1_backBits_16 rfl ?_
    refine lv_goto (tgt := 27) hx hb dX1_backBits_17 (by decide) ?_
    rw [hQ]
    exact W.lret (v := 0) hx hb hr (fun t ht hW => ⟨⟨0, u10, rfl, (hR.trans (by simp only [f_X1_backBits, hw10, if_neg c13])), by rw [ht]; exact hP, hD⟩, hS.F ht⟩) hS.2.2 dX1_backBits_27

def f_X1_isBack (T : pT) (p0 : Int32) : Int32 × pT := (match f_X1_no T (f_X1_isFrom p0 0 4095) 1 with | (r10, u10) => (if (r10 : Int32) = 0 then (if ((f_X1_square (f_X1_nearestRoot p0)) : Int64) = (f_X1_bitsOf ((p0 : Int32).toInt64) 0) then (1, u10) else (0, u10)) else (0, u10)))
set_option maxHeartbeats 4000000 in
set_option maxRecDepth 100000 in
theorem met_X1_isBack (l : Launch) (D : va_G) (cI cJ : ClassId) (bd : Nat → Nat) (A : Nat → Prop) (T : pT) (p0 : Int32) : Met l yX1_isBack wsX1_isBack ({ frames := 4, cells := 0, slots := 0, locals := 113 } : Room) (va_Pc [.ref (bd 0), .int p0] (fun U => b1R D cI cJ bd T U ∧ va_D A (mmW cI cJ bd T))) (va_Qi (fun (r : Int32) (u : pT) => f_X1_isBack T p0 = (r, u) ∧ (r = 0 ∨ r = 1)) (fun (u : pT) t => va_P D pCl (mmW cI cJ bd u) t.heap ∧ va_D A (mmW cI cJ bd u)) A) 0 0 A := by
  refine Met.ofW (cc := cX1_isBack) (maxL := 2) (ret := (some .boolean)) (by decide) rfl ?_
  intro p e s m args below meth c s₁ B hml hv
  obtain ⟨rfl, ⟨hP, hK⟩, hD⟩ := hv
  have hx := B.exec
  have hb := B.bytes
  have hr := B.returns
  have hts := atoms_spec (ws := wsX1_isBack) B.pre
  have hown : s.vm.findClass RX1 = some m.cls := findClass_of_methodNamed B.named
  have hlocks := B.notSynchronized
  have hS : va_S A s.heap s.heap [] := va_S.rf
  have hl := lv_entry ([.ref (bd 0), .int p0]) (n := 2) (Nat.le_of_ble_eq_true rfl)
  rw [lg_entry_eq]
  generalize (lg_sl ([.ref (bd 0), .int p0]) ++ List.replicate (2 - (lg_sl ([.ref (bd 0), .int p0])).length) Slot.unset).toArray = ls at hl ⊢
  have hl : lv_has ls 2 [(0, .ref (bd 0)), (1, .int p0)] := hl
  obtain ⟨Q, hQ⟩ : ∃ Q : State → Prop, Q = (MQ below (va_Qi (fun (r : Int32) (u : pT) => f_X1_isBack T p0 = (r, u) ∧ (r = 0 ∨ r = 1)) (fun (u : pT) t => va_P D pCl (mmW cI cJ bd u) t.heap ∧ va_D A (mmW cI cJ bd u)) A) ([.ref (bd 0), .int p0] : List Value).toArray s 0 0 A) := ⟨_, rfl⟩
  rw [← hQ]
  have hR : f_X1_isBack T p0 = f_X1_isBack T p0 := rfl
  refine lv_aload_n hx hb dX1_isBack_0 rfl (lv_at hl 0 rfl) ?_
  refine lv_iload_n hx hb dX1_isBack_1 rfl (lv_at hl 1 rfl) ?_
  refine lv_iconst (v := 0) hx hb dX1_isBack_2 (by decide) ?_
  refine lv_sipush (v := 4095) hx hb dX1_isBack_3 (by decide) ?_
  refine va_calli (va_runS (As := [.int p0, .int 0, .int 4095]) (rest := [.ref (bd 0)]) ⟨hx, hb, hml, hown, hts⟩ (met_X1_isFrom l p0 0 4095) (va_cwS 3 hts gX1_isBack_X1_isFrom rfl rfl rfl (by decide +kernel) ⟨Nat.le_of_ble_eq_true rfl, Nat.le_of_ble_eq_true rfl⟩) ⟨fun a U g mk q => q, fun U hU hW => ⟨rfl, trivial⟩⟩ rfl rfl hl.1 rfl (lv_room (Nat.le_of_ble_eq_true rfl)) dX1_isBack_6 ⟨Nat.le_of_ble_eq_true rfl, Nat.le_of_ble_eq_true rfl⟩) hS (fun q _ h => h.elim) (fun q h => h.elim) (fun r6 u6 t H locs ht hvm hw6 hB hz hk hS => ?_)
  obtain ⟨hw6, bz6⟩ := hw6
  subst hw6
  have hP := hP.kept (fun k q hk9 => hk _ (vx_lt hP hk9) (fun h => h))
  refine lv_iconst (v := 1) hx hb dX1_isBack_9 (by decide) ?_
  refine va_calli (va_runV (As := [.int (f_X1_isFrom p0 0 4095), .int 1]) (rest := []) ⟨hx, hb, hml, hown, hts⟩ (met_X1_no l D cI cJ bd A T (f_X1_isFrom p0 0 4095) 1) (cwV 2 hts gX1_isBack_X1_no rfl rfl rfl (by decide +kernel) ⟨Nat.le_of_ble_eq_true rfl, Nat.le_of_ble_eq_true rfl⟩) ⟨fun a U g mk q => ⟨q.1, b1R_calling q.2.1, q.2.2⟩, va_recv hK hP (ci := 1) (q0 := 0) rfl rfl, fun U hU hW => ⟨rfl, b1R_at hP hK hU hW, hD⟩⟩ rfl rfl hl.1 rfl (lv_room (Nat.le_of_ble_eq_true rfl)) dX1_isBack_10 ⟨Nat.le_of_ble_eq_true rfl, Nat.le_of_ble_eq_true rfl⟩) hS (fun q _ h => h) (fun q h => h) (fun r10 u10 t H locs ht hvm hw10 hB hz hk hS => ?_)
  obtain ⟨hw10, bz10⟩ := hw10
  obtain ⟨hP, hD⟩ := hB
  rw [ht] at hP
  refine lv_if_ne (tgt := 37) hx hb dX1_isBack_13 (by decide) (fun c13 => ?_) (fun c13 => ?_)
  · skip
    refine lv_iconst (v := 0) hx hb dX1_isBack_37 (by decide) ?_
    rw [hQ]
    exact W.zret (ty := .boolean) (v := 0) hx hb hr (nbool (Or.inl rfl)) (fun t ht hW => ⟨⟨0, u10, rfl, ⟨(hR.trans (by simp only [f_X1_isBack, hw10, if_neg c13])), (Or.inl rfl)⟩, by rw [ht]; exact hP, hD⟩, hS.F ht⟩) hS.2.2 dX1_isBack_38
  · skip
    refine lv_iload_n hx hb dX1_isBack_16 rfl (lv_at hl 1 rfl) ?_
    refine va_calll (va_runS (As := [.int p0]) (rest := []) ⟨hx, hb, hml, hown, hts⟩ (met_X1_nearestRoot l p0 (from_nn (no_ok hw10 c13))) (va_cwS 1 hts gX1_isBack_X1_nearestRoot rfl rfl rfl (by decide +kernel) ⟨Nat.le_of_ble_eq_true rfl, Nat.le_of_ble_eq_true rfl⟩) ⟨fun a U g mk q => q, fun U hU hW => ⟨rfl, trivial⟩⟩ rfl rfl hl.1 rfl (lv_room (Nat.le_of_ble_eq_true rfl)) dX1_isBack_17 ⟨Nat.le_of_ble_eq_true rfl, Nat.le_of_ble_eq_true rfl⟩) hS (fun q _ h => h.elim) (fun q h => h.elim) (fun r17 u17 t H locs ht hvm hw17 hB hz hk hS => ?_)
    subst hw17
    have hP := hP.kept (fun k q hk9 => hk _ (vx_lt hP hk9) (fun h => h))
    refine va_calll (va_runS (As := [.long (f_X1_nearestRoot p0)]) (rest := []) ⟨hx, hb, hml, hown, hts⟩ (met_X1_square l (f_X1_nearestRoot p0)) (va_cwS 1 hts gX1_isBack_X1_square rfl rfl rfl (by decide +kernel) ⟨Nat.le_of_ble_eq_true rfl, Nat.le_of_ble_eq_true rfl⟩) ⟨fun a U g mk q => q, fun U hU hW => ⟨rfl, trivial⟩⟩ rfl rfl hl.1 rfl (lv_room (Nat.le_of_ble_eq_true rfl)) dX1_isBack_20 ⟨Nat.le_of_ble_eq_true rfl, Nat.le_of_ble_eq_true rfl⟩) hS (fun q _ h => h.elim) (fun q h => h.elim) (fun r20 u20 t H locs ht hvm hw20 hB hz hk hS => ?_)
    subst hw20
    have hP := hP.kept (fun k q hk9 => hk _ (vx_lt hP hk9) (fun h => h))
    refine lv_iload_n hx hb dX1_isBack_23 rfl (lv_at hl 1 rfl) ?_
    refine lv_i2l hx hb dX1_isBack_24 rfl ?_
    refine lv_iconst (v := 0) hx hb dX1_isBack_25 (by decide) ?_
    refine va_calll (va_runS (As := [.long ((p0 : Int32).toInt64), .int 0]) (rest := [.long (f_X1_square (f_X1_nearestRoot p0))]) ⟨hx, hb, hml, hown, hts⟩ (met_X1_bitsOf l ((p0 : Int32).toInt64) 0) (va_cwS 2 hts gX1_isBack_X1_bitsOf rfl rfl rfl (by decide +kernel) ⟨Nat.le_of_ble_eq_true rfl, Nat.le_of_ble_eq_true rfl⟩) ⟨fun a U g mk q => q, fun U hU hW => ⟨rfl, trivial⟩⟩ rfl rfl hl.1 rfl (lv_room (Nat.le_of_ble_eq_true rfl)) dX1_isBack_26 ⟨Nat.le_of_ble_eq_true rfl, Nat.le_of_ble_eq_true rfl⟩) hS (fun q _ h => h.elim) (fun q h => h.elim) (fun r26 u26 t H locs ht hvm hw26 hB hz hk hS => ?_)
    subst hw26
    have hP := hP.kept (fun k q hk9 => hk _ (vx_lt hP hk9) (fun h => h))
    refine W.lcmp hx hb dX1_isBack_29 ?_
    refine lv_if_ne (tgt := 37) hx hb dX1_isBack_30 (by decide) (fun c29 => ?_) (fun c29 => ?_)
    · skip
      have c29 : ¬ (((f_X1_square (f_X1_nearestRoot p0)) : Int64) = (f_X1_bitsOf ((p0 : Int32).toInt64) 0)) := fun h => c29 ((lg_cmp_eq _ _).mpr h)
      refine lv_iconst (v := 0) hx hb dX1_isBack_37 (by decide) ?_
      rw [hQ]
      exact W.zret (ty := .boolean) (v := 0) hx hb hr (nbool (Or.inl rfl)) (fun t ht hW => ⟨⟨0, u10, rfl, ⟨(hR.trans (by simp only [f_X1_isBack, hw10, if_pos c13, if_neg c29])), (Or.inl rfl)⟩, by rw [ht]; exact hP, hD⟩, hS.F ht⟩) hS.2.2 dX1_isBack_38
    · skip
      have c29 : ((f_X1_square (f_X1_nearestRoot p0)) : Int64) = (f_X1_bitsOf ((p0 : Int32).toInt64) 0) := (lg_cmp_eq _ _).mp c29
      refine lv_iconst (v := 1) hx hb dX1_isBack_33 (by decide) ?_
      refine lv_goto (tgt := 38) hx hb dX1_isBack_34 (by decide) ?_
      rw [hQ]
      exact W.zret (ty := .boolean) (v := 1) hx hb hr (nbool (Or.inr rfl)) (fun t ht hW => ⟨⟨1, u10, rfl, ⟨(hR.trans (by simp only [f_X1_isBack, hw10, if_pos c13, if_pos c29])), (Or.inr rfl)⟩, by rw [ht]; exact hP, hD⟩, hS.F ht⟩) hS.2.2 dX1_isBack_38

def f_X1_squareBits (T : pT) (p0 : Int32) : Int64 × pT := (match f_X1_lacksSquare T p0 with | (r2, u2) => (if (r2 : Int32) = 0 then ((f_X1_nearestSquare ((odT u2) p0.toNatClampNeg) ((shT u2) p0.toNatClampNeg)), u2) else (0, u2)))
set_option maxHeartbeats 4000000 in
set_option maxRecDepth 100000 in
theorem met_X1_squareBits (l : Launch) (D : va_G) (cI cJ : ClassId) (bd : Nat → Nat) (A : Nat → Prop) (T : pT) (p0 : Int32) : Met l yX1_squareBits wsX1_squareBits ({ frames := 3, cells := 0, slots := 0, locals := 92 } : Room) (va_Pc [.ref (bd 0), .int p0] (fun U => b1R D cI cJ bd T U ∧ va_D A (mmW cI cJ bd T))) (va_Ql (fun (r : Int64) (u : pT) => f_X1_squareBits T p0 = (r, u)) (fun (u : pT) t => va_P D pCl (mmW cI cJ bd u) t.heap ∧ va_D A (mmW cI cJ bd u)) A) 0 0 A := by
  refine Met.ofW (cc := cX1_squareBits) (maxL := 2) (ret := (some .long)) (by decide) rfl ?_
  intro p e s m args below meth c s₁ B hml hv
  obtain ⟨rfl, ⟨hP, hK⟩, hD⟩ := hv
  have hx := B.exec
  have hb := B.bytes
  have hr := B.returns
  have hts := atoms_spec (ws := wsX1_squareBits) B.pre
  have hown : s.vm.findClass RX1 = some m.cls := findClass_of_methodNamed B.named
  have hlocks := B.notSynchronized
  have hS : va_S A s.heap s.heap [] := va_S.rf
  have hin : ∀ w ∈ wsX10, w ∈ wsX1_squareBits := by decide +kernel
  have hf13 := hts (.fieldLink RX1 13 "PowermillModel" "odd" "[J") (by decide +kernel)
  have hf17 := hts (.fieldLink RX1 17 "PowermillModel" "shift" "[I") (by decide +kernel)
  have hl := lv_entry ([.ref (bd 0), .int p0]) (n := 2) (Nat.le_of_ble_eq_true rfl)
  rw [lg_entry_eq]
  generalize (lg_sl ([.ref (bd 0), .int p0]) ++ List.replicate (2 - (lg_sl ([.ref (bd 0), .int p0])).length) Slot.unset).toArray = ls at hl ⊢
  have hl : lv_has ls 2 [(0, .ref (bd 0)), (1, .int p0)] := hl
  obtain ⟨Q, hQ⟩ : ∃ Q : State → Prop, Q = (MQ below (va_Ql (fun (r : Int64) (u : pT) => f_X1_squareBits T p0 = (r, u)) (fun (u : pT) t => va_P D pCl (mmW cI cJ bd u) t.heap ∧ va_D A (mmW cI cJ bd u)) A) ([.ref (bd 0), .int p0] : List Value).toArray s 0 0 A) := ⟨_, rfl⟩
  rw [← hQ]
  have hR : f_X1_squareBits T p0 = f_X1_squareBits T p0 := rfl
  refine lv_aload_n hx hb dX1_squareBits_0 rfl (lv_at hl 0 rfl) ?_
  refine lv_iload_n hx hb dX1_squareBits_1 rfl (lv_at hl 1 rfl) ?_
  refine va_calli (va_runV (As := [.int p0]) (rest := []) ⟨hx, hb, hml, hown, hts⟩ (met_X1_lacksSquare l D cI cJ bd A T p0) (cwV 1 hts gX1_squareBits_X1_lacksSquare rfl rfl rfl (by decide +kernel) ⟨Nat.le_of_ble_eq_true rfl, Nat.le_of_ble_eq_true rfl⟩) ⟨fun a U g mk q => ⟨q.1, b1R_calling q.2.1, q.2.2⟩, va_recv hK hP (ci := 1) (q0 := 0) rfl rfl, fun U hU hW => ⟨rfl, b1R_at hP hK hU hW, hD⟩⟩ rfl rfl hl.1 rfl (lv_room (Nat.le_of_ble_eq_true rfl)) dX1_squareBits_2 ⟨Nat.le_of_ble_eq_true rfl, Nat.le_of_ble_eq_true rfl⟩) hS (fun q _ h => h) (fun q h => h) (fun r2 u2 t H locs ht hvm hw2 hB hz hk hS => ?_)
  obtain ⟨hw2, bz2⟩ := hw2
  obtain ⟨hP, hD⟩ := hB
  rw [ht] at hP
  refine lv_if_eq (tgt := 12) hx hb dX1_squareBits_5 (by decide) (fun c5 => ?_) (fun c5 => ?_)
  · skip
    have hi5 := lacksSquare_in hw2 c5
    refine lv_aload_n hx hb dX1_squareBits_12 rfl (lv_at hl 0 rfl) ?_
    refine va_get (D := D) (ci := 1) (v := .ref (bd 2)) (C := RX1) (T := TX1) (N := 12) hx hb hts hin hown hK hP 0 rfl rfl 1 (by decide) hf13 (fun _ h9 => h9) rfl dX1_squareBits_13 ?_
    refine lv_iload_n hx hb dX1_squareBits_16 rfl (lv_at hl 1 rfl) ?_
    refine va_lald hx hb hK hP 2 1 rfl rfl hi5 dX1_squareBits_17 ?_
    refine lv_aload_n hx hb dX1_squareBits_18 rfl (lv_at hl 0 rfl) ?_
    refine va_get (D := D) (ci := 1) (v := .ref (bd 3)) (C := RX1) (T := TX1) (N := 12) hx hb hts hin hown hK hP 0 rfl rfl 2 (by decide) hf17 (fun _ h9 => h9) rfl dX1_squareBits_19 ?_
    refine lv_iload_n hx hb dX1_squareBits_22 rfl (lv_at hl 1 rfl) ?_
    refine va_iald hx hb hK hP 3 0 rfl rfl hi5 dX1_squareBits_23 ?_
    refine va_calll (va_runS (As := [.long ((odT u2) p0.toNatClampNeg), .int ((shT u2) p0.toNatClampNeg)]) (rest := []) ⟨hx, hb, hml, hown, hts⟩ (met_X1_nearestSquare l ((odT u2) p0.toNatClampNeg) ((shT u2) p0.toNatClampNeg)) (va_cwS 2 hts gX1_squareBits_X1_nearestSquare rfl rfl rfl (by decide +kernel) ⟨Nat.le_of_ble_eq_true rfl, Nat.le_of_ble_eq_true rfl⟩) ⟨fun a U g mk q => q, fun U hU hW => ⟨rfl, trivial⟩⟩ rfl rfl hl.1 rfl (lv_room (Nat.le_of_ble_eq_true rfl)) dX1_squareBits_24 ⟨Nat.le_of_ble_eq_true rfl, Nat.le_of_ble_eq_true rfl⟩) hS (fun q _ h => h.elim) (fun q h => h.elim) (fun r24 u24 t H locs ht hvm hw24 hB hz hk hS => ?_)
    subst hw24
    have hP := hP.kept (fun k q hk9 => hk _ (vx_lt hP hk9) (fun h => h))
    rw [hQ]
    exact W.lret (v := (f_X1_nearestSquare ((odT u2) p0.toNatClampNeg) ((shT u2) p0.toNatClampNeg))) hx hb hr (fun t ht hW => ⟨⟨(f_X1_nearestSquare ((odT u2) p0.toNatClampNeg) ((shT u2) p0.toNatClampNeg)), u2, rfl, (hR.trans (by simp only [f_X1_squareBits, hw2, if_pos c5])), by rw [ht]; exact hP, hD⟩, hS.F ht⟩) hS.2.2 dX1_squareBits_27
  · skip
    refine lv_lconst (v := 0) hx hb dX1_squareBits_8 rfl ?_
    refine lv_goto (tgt := 27) hx hb dX1_squareBits_9 (by decide) ?_
    rw [hQ]
    exact W.lret (v := 0) hx hb hr (fun t ht hW => ⟨⟨0, u2, rfl, (hR.trans (by simp only [f_X1_squareBits, hw2, if_neg c5])), by rw [ht]; exact hP, hD⟩, hS.F ht⟩) hS.2.2 dX1_squareBits_27

def f_X1_isTimes (T : pT) (p0 : Int32) : Int32 × pT := (match f_X1_lacksSquare T p0 with | (r2, u2) => (if (r2 : Int32) = 0 then (1, u2) else (0, u2)))
set_option maxHeartbeats 4000000 in
set_option maxRecDepth 100000 in
theorem met_X1_isTimes (l : Launch) (D : va_G) (cI cJ : ClassId) (bd : Nat → Nat) (A : Nat → Prop) (T : pT) (p0 : Int32) : Met l yX1_isTimes wsX1_isTimes ({ frames := 2, cells := 0, slots := 0, locals := 43 } : Room) (va_Pc [.ref (bd 0), .int p0] (fun U => b1R D cI cJ bd T U ∧ va_D A (mmW cI cJ bd T))) (va_Qi (fun (r : Int32) (u : pT) => f_X1_isTimes T p0 = (r, u) ∧ (r = 0 ∨ r = 1)) (fun (u : pT) t => va_P D pCl (mmW cI cJ bd u) t.heap ∧ va_D A (mmW cI cJ bd u)) A) 0 0 A := by
  refine Met.ofW (cc := cX1_isTimes) (maxL := 2) (ret := (some .boolean)) (by decide) rfl ?_
  intro p e s m args below meth c s₁ B hml hv
  obtain ⟨rfl, ⟨hP, hK⟩, hD⟩ := hv
  have hx := B.exec
  have hb := B.bytes
  have hr := B.returns
  have hts := atoms_spec (ws := wsX1_isTimes) B.pre
  have hown : s.vm.findClass RX1 = some m.cls := findClass_of_methodNamed B.named
  have hlocks := B.notSynchronized
  have hS : va_S A s.heap s.heap [] := va_S.rf
  have hl := lv_entry ([.ref (bd 0), .int p0]) (n := 2) (Nat.le_of_ble_eq_true rfl)
  rw [lg_entry_eq]
  generalize (lg_sl ([.ref (bd 0), .int p0]) ++ List.replicate (2 - (lg_sl ([.ref (bd 0), .int p0])).length) Slot.unset).toArray = ls at hl ⊢
  have hl : lv_has ls 2 [(0, .ref (bd 0)), (1, .int p0)] := hl
  obtain ⟨Q, hQ⟩ : ∃ Q : State → Prop, Q = (MQ below (va_Qi (fun (r : Int32) (u : pT) => f_X1_isTimes T p0 = (r, u) ∧ (r = 0 ∨ r = 1)) (fun (u : pT) t => va_P D pCl (mmW cI cJ bd u) t.heap ∧ va_D A (mmW cI cJ bd u)) A) ([.ref (bd 0), .int p0] : List Value).toArray s 0 0 A) := ⟨_, rfl⟩
  rw [← hQ]
  have hR : f_X1_isTimes T p0 = f_X1_isTimes T p0 := rfl
  refine lv_aload_n hx hb dX1_isTimes_0 rfl (lv_at hl 0 rfl) ?_
  refine lv_iload_n hx hb dX1_isTimes_1 rfl (lv_at hl 1 rfl) ?_
  refine va_calli (va_runV (As := [.int p0]) (rest := []) ⟨hx, hb, hml, hown, hts⟩ (met_X1_lacksSquare l D cI cJ bd A T p0) (cwV 1 hts gX1_isTimes_X1_lacksSquare rfl rfl rfl (by decide +kernel) ⟨Nat.le_of_ble_eq_true rfl, Nat.le_of_ble_eq_true rfl⟩) ⟨fun a U g mk q => ⟨q.1, b1R_calling q.2.1, q.2.2⟩, va_recv hK hP (ci := 1) (q0 := 0) rfl rfl, fun U hU hW => ⟨rfl, b1R_at hP hK hU hW, hD⟩⟩ rfl rfl hl.1 rfl (lv_room (Nat.le_of_ble_eq_true rfl)) dX1_isTimes_2 ⟨Nat.le_of_ble_eq_true rfl, Nat.le_of_ble_eq_true rfl⟩) hS (fun q _ h => h) (fun q h => h) (fun r2 u2 t H locs ht hvm hw2 hB hz hk hS => ?_)
  obtain ⟨hw2, bz2⟩ := hw2
  obtain ⟨hP, hD⟩ := hB
  rw [ht] at hP
  refine lv_if_ne (tgt := 12) hx hb dX1_isTimes_5 (by decide) (fun c5 => ?_) (fun c5 => ?_)
  · skip
    refine lv_iconst (v := 0) hx hb dX1_isTimes_12 (by decide) ?_
    rw [hQ]
    exact W.zret (ty := .boolean) (v := 0) hx hb hr (nbool (Or.inl rfl)) (fun t ht hW => ⟨⟨0, u2, rfl, ⟨(hR.trans (by simp only [f_X1_isTimes, hw2, if_neg c5])), (Or.inl rfl)⟩, by rw [ht]; exact hP, hD⟩, hS.F ht⟩) hS.2.2 dX1_isTimes_13
  · skip
    have hi5 := lacksSquare_in hw2 c5
    refine lv_iconst (v := 1) hx hb dX1_isTimes_8 (by decide) ?_
    refine lv_goto (tgt := 13) hx hb dX1_isTimes_9 (by decide) ?_
    rw [hQ]
    exact W.zret (ty := .boolean) (v := 1) hx hb hr (nbool (Or.inr rfl)) (fun t ht hW => ⟨⟨1, u2, rfl, ⟨(hR.trans (by simp only [f_X1_isTimes, hw2, if_pos c5])), (Or.inr rfl)⟩, by rw [ht]; exact hP, hD⟩, hS.F ht⟩) hS.2.2 dX1_isTimes_13

def f_X1_isSound (T : pT) : Int32 × pT := (1, (sgT T, odT T, shT T, ksT T, kgT T, koT T, khT T, kpT T, psT T, poT T, phT T, 0))
set_option maxHeartbeats 4000000 in
set_option maxRecDepth 100000 in
theorem met_X1_isSound (l : Launch) (D : va_G) (cI cJ : ClassId) (bd : Nat → Nat) (A : Nat → Prop) (T : pT) : Met l yX1_isSound wsX1_isSound ({ frames := 0, cells := 0, slots := 0, locals := 0 } : Room) (va_Pc [.ref (bd 0)] (fun U => b1R D cI cJ bd T U ∧ va_D A (mmW cI cJ bd T))) (va_Qi (fun (r : Int32) (u : pT) => f_X1_isSound T = (r, u) ∧ (r = 0 ∨ r = 1)) (fun (u : pT) t => va_P D pCl (mmW cI cJ bd u) t.heap ∧ va_D A (mmW cI cJ bd u)) A) 0 0 A := by
  refine Met.ofW (cc := cX1_isSound) (maxL := 1) (ret := (some .boolean)) (by decide) rfl ?_
  intro p e s m args below meth c s₁ B hml hv
  obtain ⟨rfl, ⟨hP, hK⟩, hD⟩ := hv
  have hx := B.exec
  have hb := B.bytes
  have hr := B.returns
  have hts := atoms_spec (ws := wsX1_isSound) B.pre
  have hown : s.vm.findClass RX1 = some m.cls := findClass_of_methodNamed B.named
  have hlocks := B.notSynchronized
  have hS : va_S A s.heap s.heap [] := va_S.rf
  have hin : ∀ w ∈ wsX10, w ∈ wsX1_isSound := by decide +kernel
  have hf36 := hts (.fieldLink RX1 36 "PowermillModel" "thrown" "I") (by decide +kernel)
  have hl := lv_entry ([.ref (bd 0)]) (n := 1) (Nat.le_of_ble_eq_true rfl)
  rw [lg_entry_eq]
  generalize (lg_sl ([.ref (bd 0)]) ++ List.replicate (1 - (lg_sl ([.ref (bd 0)])).length) Slot.unset).toArray = ls at hl ⊢
  have hl : lv_has ls 1 [(0, .ref (bd 0))] := hl
  obtain ⟨Q, hQ⟩ : ∃ Q : State → Prop, Q = (MQ below (va_Qi (fun (r : Int32) (u : pT) => f_X1_isSound T = (r, u) ∧ (r = 0 ∨ r = 1)) (fun (u : pT) t => va_P D pCl (mmW cI cJ bd u) t.heap ∧ va_D A (mmW cI cJ bd u)) A) ([.ref (bd 0)] : List Value).toArray s 0 0 A) := ⟨_, rfl⟩
  rw [← hQ]
  have hR : f_X1_isSound T = f_X1_isSound T := rfl
  refine lv_aload_n hx hb dX1_isSound_0 rfl (lv_at hl 0 rfl) ?_
  refine lv_iconst (v := 0) hx hb dX1_isSound_1 (by decide) ?_
  refine va_put (D := D) (ci := 1) (v := .int 0) (ty := .int) (C := RX1) (T := TX1) (N := 12) hx hb hts hin tyX1 tyX1_ok nmX1 hown hK hP hD hS 0 rfl rfl 11 (by decide) hf36 (fun _ h9 => h9) rfl (by decide +kernel) rfl rfl (Nat.le_of_ble_eq_true rfl) dX1_isSound_2 (fun H locs hP hD hS => ?_)
  have hP : va_P D pCl ([(bd 0, .inr (1, [.ref (bd 1), .ref (bd 2), .ref (bd 3), .ref (bd 4), .ref (bd 5), .ref (bd 6), .ref (bd 7), .int (kpT T), .int (psT T), .long (poT T), .int (phT T), .int 0])), (bd 1, .inl (cI, 8, .inl (sgT T))), (bd 2, .inl (cJ, 8, .inr (.inl (odT T)))), (bd 3, .inl (cI, 8, .inl (shT T))), (bd 4, .inl (cI, 8, .inl (ksT T))), (bd 5, .inl (cI, 8, .inl (kgT T))), (bd 6, .inl (cJ, 8, .inr (.inl (koT T)))), (bd 7, .inl (cI, 8, .inl (khT T)))]) H := hP
  have hD : va_D A ([(bd 0, .inr (1, [.ref (bd 1), .ref (bd 2), .ref (bd 3), .ref (bd 4), .ref (bd 5), .ref (bd 6), .ref (bd 7), .int (kpT T), .int (psT T), .long (poT T), .int (phT T), .int 0])), (bd 1, .inl (cI, 8, .inl (sgT T))), (bd 2, .inl (cJ, 8, .inr (.inl (odT T)))), (bd 3, .inl (cI, 8, .inl (shT T))), (bd 4, .inl (cI, 8, .inl (ksT T))), (bd 5, .inl (cI, 8, .inl (kgT T))), (bd 6, .inl (cJ, 8, .inr (.inl (koT T)))), (bd 7, .inl (cI, 8, .inl (khT T)))]) := hD
  refine lv_iconst (v := 1) hx hb dX1_isSound_5 (by decide) ?_
  rw [hQ]
  exact W.zret (ty := .boolean) (v := 1) hx hb hr (nbool (Or.inr rfl)) (fun t ht hW => ⟨⟨1, (sgT T, odT T, shT T, ksT T, kgT T, koT T, khT T, kpT T, psT T, poT T, phT T, 0), rfl, ⟨(hR.trans (by simp only [f_X1_isSound])), (Or.inr rfl)⟩, by rw [ht]; exact hP, hD⟩, hS.F ht⟩) hS.2.2 dX1_isSound_6

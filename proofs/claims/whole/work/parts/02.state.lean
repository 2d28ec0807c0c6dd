/-! WHAT A STATE IS: the cells of the class's object and of the reference's, as one tuple each; what a contract needs of the world it starts in -/
abbrev pCl : List vw_C := [(RX0, TX0, 9), (RX1, TX1, 12)]
abbrev pS : Type := (Nat → Int32) × (Nat → Int64) × (Nat → Int32) × (Nat → Int32) × (Nat → Int32) × (Nat → Int64) × (Nat → Int32) × Int32 × Int32
abbrev sgS (S : pS) : Nat → Int32 := S.1
abbrev odS (S : pS) : Nat → Int64 := S.2.1
abbrev shS (S : pS) : Nat → Int32 := S.2.2.1
abbrev ksS (S : pS) : Nat → Int32 := S.2.2.2.1
abbrev kgS (S : pS) : Nat → Int32 := S.2.2.2.2.1
abbrev koS (S : pS) : Nat → Int64 := S.2.2.2.2.2.1
abbrev khS (S : pS) : Nat → Int32 := S.2.2.2.2.2.2.1
abbrev nxS (S : pS) : Int32 := S.2.2.2.2.2.2.2.1
abbrev cnS (S : pS) : Int32 := S.2.2.2.2.2.2.2.2
abbrev pT : Type := (Nat → Int32) × (Nat → Int64) × (Nat → Int32) × (Nat → Int32) × (Nat → Int32) × (Nat → Int64) × (Nat → Int32) × Int32 × Int32 × Int64 × Int32 × Int32
abbrev sgT (T : pT) : Nat → Int32 := T.1
abbrev odT (T : pT) : Nat → Int64 := T.2.1
abbrev shT (T : pT) : Nat → Int32 := T.2.2.1
abbrev ksT (T : pT) : Nat → Int32 := T.2.2.2.1
abbrev kgT (T : pT) : Nat → Int32 := T.2.2.2.2.1
abbrev koT (T : pT) : Nat → Int64 := T.2.2.2.2.2.1
abbrev khT (T : pT) : Nat → Int32 := T.2.2.2.2.2.2.1
abbrev kpT (T : pT) : Int32 := T.2.2.2.2.2.2.2.1
abbrev psT (T : pT) : Int32 := T.2.2.2.2.2.2.2.2.1
abbrev poT (T : pT) : Int64 := T.2.2.2.2.2.2.2.2.2.1
abbrev phT (T : pT) : Int32 := T.2.2.2.2.2.2.2.2.2.2.1
abbrev thT (T : pT) : Int32 := T.2.2.2.2.2.2.2.2.2.2.2
abbrev pmW (cI cJ : ClassId) (ad : Nat → Nat) (S : pS) : va_W := [(ad 0, .inr (0, [.ref (ad 1), .ref (ad 2), .ref (ad 3), .ref (ad 4), .ref (ad 5), .ref (ad 6), .ref (ad 7), .int (nxS S), .int (cnS S)])), (ad 1, .inl (cI, 8, .inl (sgS S))), (ad 2, .inl (cJ, 8, .inr (.inl (odS S)))), (ad 3, .inl (cI, 8, .inl (shS S))), (ad 4, .inl (cI, 8, .inl (ksS S))), (ad 5, .inl (cI, 8, .inl (kgS S))), (ad 6, .inl (cJ, 8, .inr (.inl (koS S)))), (ad 7, .inl (cI, 8, .inl (khS S)))]
abbrev mmW (cI cJ : ClassId) (bd : Nat → Nat) (T : pT) : va_W := [(bd 0, .inr (1, [.ref (bd 1), .ref (bd 2), .ref (bd 3), .ref (bd 4), .ref (bd 5), .ref (bd 6), .ref (bd 7), .int (kpT T), .int (psT T), .long (poT T), .int (phT T), .int (thT T)])), (bd 1, .inl (cI, 8, .inl (sgT T))), (bd 2, .inl (cJ, 8, .inr (.inl (odT T)))), (bd 3, .inl (cI, 8, .inl (shT T))), (bd 4, .inl (cI, 8, .inl (ksT T))), (bd 5, .inl (cI, 8, .inl (kgT T))), (bd 6, .inl (cJ, 8, .inr (.inl (koT T)))), (bd 7, .inl (cI, 8, .inl (khT T)))]
abbrev pTy (cI cJ : ClassId) : List (ClassId × FieldType) := [(cI, .int), (cJ, .long)]
def b0R (D : va_G) (cI cJ : ClassId) (ad : Nat → Nat) (S : pS) (U : State) : Prop := va_P D pCl (pmW cI cJ ad S) U.heap ∧ va_K D pCl (pTy cI cJ) U
def b1R (D : va_G) (cI cJ : ClassId) (bd : Nat → Nat) (T : pT) (U : State) : Prop := va_P D pCl (mmW cI cJ bd T) U.heap ∧ va_K D pCl (pTy cI cJ) U
theorem b0R_calling {D : va_G} {cI cJ : ClassId} {ad : Nat → Nat} {S : pS} {U : State} {g : JFrame} {mk : MethodId} {a : Array Value} (h : b0R D cI cJ ad S U) : b0R D cI cJ ad S (U.calling g mk a) := ⟨h.1, va_K.moved (u := U) (U := U.calling g mk a) (Vm.Alike.refl U.vm) h.2⟩
theorem b1R_calling {D : va_G} {cI cJ : ClassId} {bd : Nat → Nat} {T : pT} {U : State} {g : JFrame} {mk : MethodId} {a : Array Value} (h : b1R D cI cJ bd T U) : b1R D cI cJ bd T (U.calling g mk a) := ⟨h.1, va_K.moved (u := U) (U := U.calling g mk a) (Vm.Alike.refl U.vm) h.2⟩
theorem b0R_at {D : va_G} {cI cJ : ClassId} {ad : Nat → Nat} {S : pS} {s U : State} {H : Heap} (hP : va_P D pCl (pmW cI cJ ad S) H) (hK : va_K D pCl (pTy cI cJ) s) (hU : U.heap = H) (hW : s.WarmedH U.vm) : b0R D cI cJ ad S U := ⟨by rw [hU]; exact hP, va_K.moved hW.alike hK⟩
theorem b1R_at {D : va_G} {cI cJ : ClassId} {bd : Nat → Nat} {T : pT} {s U : State} {H : Heap} (hP : va_P D pCl (mmW cI cJ bd T) H) (hK : va_K D pCl (pTy cI cJ) s) (hU : U.heap = H) (hW : s.WarmedH U.vm) : b1R D cI cJ bd T U := ⟨by rw [hU]; exact hP, va_K.moved hW.alike hK⟩
/-- exceptions by numbers -/
def exN : Nat → String
  | 1 => "java/lang/IndexOutOfBoundsException"
  | 2 => "java/lang/IllegalArgumentException"
  | 3 => "java/lang/IllegalStateException"
  | 4 => "java/lang/ArithmeticException"
  | 5 => "java/lang/UnsupportedOperationException"
  | _ => "java/util/NoSuchElementException"
def xStr : List (Nat × String) := [(196, "no such slot or place"), (199, "out of range"), (95, "the power is not told"), (79, "the base is not whole"), (86, "1 divided by 0"), (100, "nothing is kept"), (212, "the number is not near"), (121, "the number is less than 1"), (129, "the place is below 0"), (132, "the number is below 0"), (206, "the power is not near"), (214, "the shift is too far from 0")]
def xCls : List String := ["java/lang/IndexOutOfBoundsException", "java/lang/IllegalArgumentException", "java/lang/IllegalStateException", "java/lang/ArithmeticException", "java/lang/UnsupportedOperationException", "java/util/NoSuchElementException"]
def xSup : List String := ["java/lang/RuntimeException", "java/lang/Exception", "java/lang/Throwable"]
/-- what a throw needs: two statics of Throwable outside A, the texts, the classes -/
def xE (A : Nat → Prop) (U : State) (H : Heap) : Prop :=
  vx_Zq Bundle.tN "UNASSIGNED_STACK" Bundle.steD A U H ∧ vx_Zq Bundle.tN "SUPPRESSED_SENTINEL" Bundle.listD A U H ∧ (∀ q : Nat × String, q ∈ xStr → ∃ a : Nat, vk_R RX0 q.1 q.2 a U) ∧ (∀ X : String, X ∈ xCls → va_Nw (.castable X X) U) ∧ (∀ X : String, X ∈ xSup → va_Nw (.declares (Bundle.initS X)) U)
theorem xE_calling {A : Nat → Prop} {U : State} {g : JFrame} {mk : MethodId} {a : Array Value} (h : xE A U U.heap) : xE A (U.calling g mk a) (U.calling g mk a).heap :=
  ⟨vx_Zq.moved (Vm.Alike.refl U.vm) h.1, vx_Zq.moved (Vm.Alike.refl U.vm) h.2.1, fun q hq => (h.2.2.1 q hq).imp fun _ z => vk_R.same (u := U) rfl z, fun X hX => va_Nw.same (u := U) rfl rfl (h.2.2.2.1 X hX), fun X hX => va_Nw.same (u := U) rfl rfl (h.2.2.2.2 X hX)⟩
theorem xE_at {A : Nat → Prop} {s U : State} {H : Heap} {locs : List Loc} (h : xE A s s.heap) (hS : va_S A s.heap H locs) (hU : U.heap = H) (hW : s.WarmedH U.vm) : xE A U U.heap := by
  rw [hU]
  exact ⟨vx_Zq.moved hW.alike (h.1.kept hS.2.1), vx_Zq.moved hW.alike (h.2.1.kept hS.2.1), fun q hq => (h.2.2.1 q hq).imp fun _ z => vk_R.warm hW z, fun X hX => va_Nw.warmC hW (h.2.2.2.1 X hX), fun X hX => va_Nw.warmD hW (h.2.2.2.2 X hX)⟩
theorem xE_narrow {A B : Nat → Prop} {U : State} {H : Heap} (h : xE A U H) (hAB : ∀ q, B q → A q) : xE B U H := ⟨h.1.narrow hAB, h.2.1.narrow hAB, h.2.2⟩
theorem xS_mono {A : Nat → Prop} {H0 H : Heap} {locs : List Loc} (h : va_S (fun _ => False) H0 H locs) : va_S A H0 H locs := ⟨h.1, fun q h1 _ => h.2.1 q h1 (fun x => x), fun z hz => (h.2.2 z hz).elim⟩
theorem nbool {v : Int32} (h : v = 0 ∨ v = 1) : narrow .boolean (.int v) = .int v := by rcases h with rfl | rfl <;> rfl

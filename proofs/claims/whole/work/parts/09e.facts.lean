/-! the start: what the exceptions want of it -/
theorem st_nw {w : Cond} (hw : w.onTables = true) {s : State} {b : Nat} (hts : ∀ w ∈ lw_tbl, w.before #[Value.ref b] s = true) (h : w ∈ lw_tbl) : va_Nw w s := va_Nw.of hw (hts w h)
theorem st_str {s : State} {b : Nat} {k : Nat} {tx : String} (hts : ∀ w ∈ lw_tbl, w.before #[Value.ref b] s = true) (h : Cond.stringRef RX0 k tx ∈ lw_tbl) (hx : (Cond.exactly (.string RX0 k) "java/lang/String").before #[Value.ref b] s = true) : ∃ a : Nat, vk_R RX0 k tx a s := by
  have h2 := hts _ h
  unfold Cond.before at hx
  obtain ⟨a, -, -, -, h3, -⟩ := Cond.exactly_spec hx
  exact ⟨a, vk_R.of h2 h3⟩
set_option maxHeartbeats 4000000 in
set_option maxRecDepth 100000 in
theorem st_xE {s : State} {b : Nat} (hts : ∀ w ∈ lw_tbl, w.before #[Value.ref b] s = true) (hg : (Jvm.Cond.and given_1 narrow_1).before #[Value.ref b] s = true) : xE (fun q : Nat => s.heap.size ≤ q) s s.heap := by
  have hs := flat_of_before _ hg
  have hA : ∀ a : Nat, a < s.heap.size → ¬ (fun q : Nat => s.heap.size ≤ q) a := fun a ha => Nat.not_le.mpr ha
  refine ⟨vx_Zqof (hts (.laysStatic Bundle.tN "UNASSIGNED_STACK" Bundle.steD) (by decide +kernel)) (hts (.initialized Bundle.tN) (by decide +kernel)) (hs (.isRef (.static Bundle.tN "UNASSIGNED_STACK" Bundle.steD)) (by decide +kernel)) hA, vx_Zqof (hts (.laysStatic Bundle.tN "SUPPRESSED_SENTINEL" Bundle.listD) (by decide +kernel)) (hts (.initialized Bundle.tN) (by decide +kernel)) (hs (.isRef (.static Bundle.tN "SUPPRESSED_SENTINEL" Bundle.listD)) (by decide +kernel)) hA, fun q hq => ?_, fun X hX => ?_, fun X hX => ?_⟩
  · unfold xStr at hq
    simp only [List.mem_cons, List.not_mem_nil, or_false] at hq
    rcases hq with rfl | rfl | rfl | rfl | rfl | rfl | rfl | rfl | rfl | rfl | rfl | rfl
    · exact st_str (k := 196) (tx := "no such slot or place") hts (by decide +kernel) (hs (.exactly (.string RX0 196) "java/lang/String") (by decide +kernel))
    · exact st_str (k := 199) (tx := "out of range") hts (by decide +kernel) (hs (.exactly (.string RX0 199) "java/lang/String") (by decide +kernel))
    · exact st_str (k := 95) (tx := "the power is not told") hts (by decide +kernel) (hs (.exactly (.string RX0 95) "java/lang/String") (by decide +kernel))
    · exact st_str (k := 79) (tx := "the base is not whole") hts (by decide +kernel) (hs (.exactly (.string RX0 79) "java/lang/String") (by decide +kernel))
    · exact st_str (k := 86) (tx := "1 divided by 0") hts (by decide +kernel) (hs (.exactly (.string RX0 86) "java/lang/String") (by decide +kernel))
    · exact st_str (k := 100) (tx := "nothing is kept") hts (by decide +kernel) (hs (.exactly (.string RX0 100) "java/lang/String") (by decide +kernel))
    · exact st_str (k := 212) (tx := "the number is not near") hts (by decide +kernel) (hs (.exactly (.string RX0 212) "java/lang/String") (by decide +kernel))
    · exact st_str (k := 121) (tx := "the number is less than 1") hts (by decide +kernel) (hs (.exactly (.string RX0 121) "java/lang/String") (by decide +kernel))
    · exact st_str (k := 129) (tx := "the place is below 0") hts (by decide +kernel) (hs (.exactly (.string RX0 129) "java/lang/String") (by decide +kernel))
    · exact st_str (k := 132) (tx := "the number is below 0") hts (by decide +kernel) (hs (.exactly (.string RX0 132) "java/lang/String") (by decide +kernel))
    · exact st_str (k := 206) (tx := "the power is not near") hts (by decide +kernel) (hs (.exactly (.string RX0 206) "java/lang/String") (by decide +kernel))
    · exact st_str (k := 214) (tx := "the shift is too far from 0") hts (by decide +kernel) (hs (.exactly (.string RX0 214) "java/lang/String") (by decide +kernel))
  · unfold xCls at hX
    simp only [List.mem_cons, List.not_mem_nil, or_false] at hX
    rcases hX with rfl | rfl | rfl | rfl | rfl | rfl
    · exact st_nw (w := .castable "java/lang/IndexOutOfBoundsException" "java/lang/IndexOutOfBoundsException") rfl hts (by decide +kernel)
    · exact st_nw (w := .castable "java/lang/IllegalArgumentException" "java/lang/IllegalArgumentException") rfl hts (by decide +kernel)
    · exact st_nw (w := .castable "java/lang/IllegalStateException" "java/lang/IllegalStateException") rfl hts (by decide +kernel)
    · exact st_nw (w := .castable "java/lang/ArithmeticException" "java/lang/ArithmeticException") rfl hts (by decide +kernel)
    · exact st_nw (w := .castable "java/lang/UnsupportedOperationException" "java/lang/UnsupportedOperationException") rfl hts (by decide +kernel)
    · exact st_nw (w := .castable "java/util/NoSuchElementException" "java/util/NoSuchElementException") rfl hts (by decide +kernel)
  · unfold xSup at hX
    simp only [List.mem_cons, List.not_mem_nil, or_false] at hX
    rcases hX with rfl | rfl | rfl
    · exact st_nw (w := .declares (Bundle.initS "java/lang/RuntimeException")) rfl hts (by decide +kernel)
    · exact st_nw (w := .declares (Bundle.initS "java/lang/Exception")) rfl hts (by decide +kernel)
    · exact st_nw (w := .declares (Bundle.initS "java/lang/Throwable")) rfl hts (by decide +kernel)
set_option maxHeartbeats 4000000 in
set_option maxRecDepth 100000 in
theorem st_xN {s : State} {b : Nat} (hg : (Jvm.Cond.and given_1 narrow_1).before #[Value.ref b] s = true) : xN s := by
  have hs := flat_of_before _ hg
  intro i j h1 h2 h3 h4 h5
  rcases (show i = 1 ∨ i = 2 ∨ i = 3 ∨ i = 4 ∨ i = 5 ∨ i = 6 by omega) with rfl | rfl | rfl | rfl | rfl | rfl <;> rcases (show j = 1 ∨ j = 2 ∨ j = 3 ∨ j = 4 ∨ j = 5 ∨ j = 6 by omega) with rfl | rfl | rfl | rfl | rfl | rfl
  · exact absurd rfl h5
  · exact va_Nc.of (C := "java/lang/IndexOutOfBoundsException") (T := "java/lang/IllegalArgumentException") (hs (.not (.castable "java/lang/IndexOutOfBoundsException" "java/lang/IllegalArgumentException")) (by decide +kernel))
  · exact va_Nc.of (C := "java/lang/IndexOutOfBoundsException") (T := "java/lang/IllegalStateException") (hs (.not (.castable "java/lang/IndexOutOfBoundsException" "java/lang/IllegalStateException")) (by decide +kernel))
  · exact va_Nc.of (C := "java/lang/IndexOutOfBoundsException") (T := "java/lang/ArithmeticException") (hs (.not (.castable "java/lang/IndexOutOfBoundsException" "java/lang/ArithmeticException")) (by decide +kernel))
  · exact va_Nc.of (C := "java/lang/IndexOutOfBoundsException") (T := "java/lang/UnsupportedOperationException") (hs (.not (.castable "java/lang/IndexOutOfBoundsException" "java/lang/UnsupportedOperationException")) (by decide +kernel))
  · exact va_Nc.of (C := "java/lang/IndexOutOfBoundsException") (T := "java/util/NoSuchElementException") (hs (.not (.castable "java/lang/IndexOutOfBoundsException" "java/util/NoSuchElementException")) (by decide +kernel))
  · exact va_Nc.of (C := "java/lang/IllegalArgumentException") (T := "java/lang/IndexOutOfBoundsException") (hs (.not (.castable "java/lang/IllegalArgumentException" "java/lang/IndexOutOfBoundsException")) (by decide +kernel))
  · exact absurd rfl h5
  · exact va_Nc.of (C := "java/lang/IllegalArgumentException") (T := "java/lang/IllegalStateException") (hs (.not (.castable "java/lang/IllegalArgumentException" "java/lang/IllegalStateException")) (by decide +kernel))
  · exact va_Nc.of (C := "java/lang/IllegalArgumentException") (T := "java/lang/ArithmeticException") (hs (.not (.castable "java/lang/IllegalArgumentException" "java/lang/ArithmeticException")) (by decide +kernel))
  · exact va_Nc.of (C := "java/lang/IllegalArgumentException") (T := "java/lang/UnsupportedOperationException") (hs (.not (.castable "java/lang/IllegalArgumentException" "java/lang/UnsupportedOperationException")) (by decide +kernel))
  · exact va_Nc.of (C := "java/lang/IllegalArgumentException") (T := "java/util/NoSuchElementException") (hs (.not (.castable "java/lang/IllegalArgumentException" "java/util/NoSuchElementException")) (by decide +kernel))
  · exact va_Nc.of (C := "java/lang/IllegalStateException") (T := "java/lang/IndexOutOfBoundsException") (hs (.not (.castable "java/lang/IllegalStateException" "java/lang/IndexOutOfBoundsException")) (by decide +kernel))
  · exact va_Nc.of (C := "java/lang/IllegalStateException") (T := "java/lang/IllegalArgumentException") (hs (.not (.castable "java/lang/IllegalStateException" "java/lang/IllegalArgumentException")) (by decide +kernel))
  · exact absurd rfl h5
  · exact va_Nc.of (C := "java/lang/IllegalStateException") (T := "java/lang/ArithmeticException") (hs (.not (.castable "java/lang/IllegalStateException" "java/lang/ArithmeticException")) (by decide +kernel))
  · exact va_Nc.of (C := "java/lang/IllegalStateException") (T := "java/lang/UnsupportedOperationException") (hs (.not (.castable "java/lang/IllegalStateException" "java/lang/UnsupportedOperationException")) (by decide +kernel))
  · exact va_Nc.of (C := "java/lang/IllegalStateException") (T := "java/util/NoSuchElementException") (hs (.not (.castable "java/lang/IllegalStateException" "java/util/NoSuchElementException")) (by decide +kernel))
  · exact va_Nc.of (C := "java/lang/ArithmeticException") (T := "java/lang/IndexOutOfBoundsException") (hs (.not (.castable "java/lang/ArithmeticException" "java/lang/IndexOutOfBoundsException")) (by decide +kernel))
  · exact va_Nc.of (C := "java/lang/ArithmeticException") (T := "java/lang/IllegalArgumentException") (hs (.not (.castable "java/lang/ArithmeticException" "java/lang/IllegalArgumentException")) (by decide +kernel))
  · exact va_Nc.of (C := "java/lang/ArithmeticException") (T := "java/lang/IllegalStateException") (hs (.not (.castable "java/lang/ArithmeticException" "java/lang/IllegalStateException")) (by decide +kernel))
  · exact absurd rfl h5
  · exact va_Nc.of (C := "java/lang/ArithmeticException") (T := "java/lang/UnsupportedOperationException") (hs (.not (.castable "java/lang/ArithmeticException" "java/lang/UnsupportedOperationException")) (by decide +kernel))
  · exact va_Nc.of (C := "java/lang/ArithmeticException") (T := "java/util/NoSuchElementException") (hs (.not (.castable "java/lang/ArithmeticException" "java/util/NoSuchElementException")) (by decide +kernel))
  · exact va_Nc.of (C := "java/lang/UnsupportedOperationException") (T := "java/lang/IndexOutOfBoundsException") (hs (.not (.castable "java/lang/UnsupportedOperationException" "java/lang/IndexOutOfBoundsException")) (by decide +kernel))
  · exact va_Nc.of (C := "java/lang/UnsupportedOperationException") (T := "java/lang/IllegalArgumentException") (hs (.not (.castable "java/lang/UnsupportedOperationException" "java/lang/IllegalArgumentException")) (by decide +kernel))
  · exact va_Nc.of (C := "java/lang/UnsupportedOperationException") (T := "java/lang/IllegalStateException") (hs (.not (.castable "java/lang/UnsupportedOperationException" "java/lang/IllegalStateException")) (by decide +kernel))
  · exact va_Nc.of (C := "java/lang/UnsupportedOperationException") (T := "java/lang/ArithmeticException") (hs (.not (.castable "java/lang/UnsupportedOperationException" "java/lang/ArithmeticException")) (by decide +kernel))
  · exact absurd rfl h5
  · exact va_Nc.of (C := "java/lang/UnsupportedOperationException") (T := "java/util/NoSuchElementException") (hs (.not (.castable "java/lang/UnsupportedOperationException" "java/util/NoSuchElementException")) (by decide +kernel))
  · exact va_Nc.of (C := "java/util/NoSuchElementException") (T := "java/lang/IndexOutOfBoundsException") (hs (.not (.castable "java/util/NoSuchElementException" "java/lang/IndexOutOfBoundsException")) (by decide +kernel))
  · exact va_Nc.of (C := "java/util/NoSuchElementException") (T := "java/lang/IllegalArgumentException") (hs (.not (.castable "java/util/NoSuchElementException" "java/lang/IllegalArgumentException")) (by decide +kernel))
  · exact va_Nc.of (C := "java/util/NoSuchElementException") (T := "java/lang/IllegalStateException") (hs (.not (.castable "java/util/NoSuchElementException" "java/lang/IllegalStateException")) (by decide +kernel))
  · exact va_Nc.of (C := "java/util/NoSuchElementException") (T := "java/lang/ArithmeticException") (hs (.not (.castable "java/util/NoSuchElementException" "java/lang/ArithmeticException")) (by decide +kernel))
  · exact va_Nc.of (C := "java/util/NoSuchElementException") (T := "java/lang/UnsupportedOperationException") (hs (.not (.castable "java/util/NoSuchElementException" "java/lang/UnsupportedOperationException")) (by decide +kernel))
  · exact absurd rfl h5

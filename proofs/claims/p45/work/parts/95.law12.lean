/-! the law's start: what the launch gives -/
theorem EX_start {b : Nat} {s : State} (hts : ∀ w ∈ lw_tbl, w.before #[Value.ref b] s = true) (hgv : (Jvm.Cond.and given_1 narrow_1).before #[Value.ref b] s = true) : ∃ en : Nat → Nat, EX en (fun q => s.heap.size ≤ q) s s.heap := by
  have hf : ∀ c ∈ flatC (Jvm.Cond.and given_1 narrow_1), c.before #[Value.ref b] s = true := flat_of_before _ hgv
  have hA : ∀ a : Nat, a < s.heap.size → ¬ (fun q : Nat => s.heap.size ≤ q) a := fun a h1 h2 => Nat.not_le.mpr h1 h2
  have x0 : (Cond.exactly (.static "CellWindows$Kind" "WHOLE" "LCellWindows$Kind;") "CellWindows$Kind").before #[Value.ref b] s = true := (hf (Cond.exactly (.static "CellWindows$Kind" "WHOLE" "LCellWindows$Kind;") "CellWindows$Kind") (by decide +kernel))
  obtain ⟨q0, e0⟩ : ∃ q : Nat, (Term.static "CellWindows$Kind" "WHOLE" "LCellWindows$Kind;").eval #[Value.ref b] s none [] s = some (.ref q) := by
    obtain ⟨a2, c, cA, kA, q1, -⟩ := Cond.exactly_spec (args := #[Value.ref b]) (first := s) (o := none) (s := s) (idx := []) x0
    exact ⟨a2, q1⟩
  have o0 := va_Oof (A := fun q => s.heap.size ≤ q) x0 e0 hA
  have z0 := va_Zof (A := fun q => s.heap.size ≤ q) (hts _ (List.mem_append_right _ (wm1 (List.mem_of_getElem? (i := 174) rfl)))) (hts _ (List.mem_append_right _ (wm1 (List.mem_of_getElem? (i := 10) rfl)))) e0 hA
  have x1 : (Cond.exactly (.static "CellWindows$Kind" "REST" "LCellWindows$Kind;") "CellWindows$Kind").before #[Value.ref b] s = true := (hf (Cond.exactly (.static "CellWindows$Kind" "REST" "LCellWindows$Kind;") "CellWindows$Kind") (by decide +kernel))
  obtain ⟨q1, e1⟩ : ∃ q : Nat, (Term.static "CellWindows$Kind" "REST" "LCellWindows$Kind;").eval #[Value.ref b] s none [] s = some (.ref q) := by
    obtain ⟨a2, c, cA, kA, q1, -⟩ := Cond.exactly_spec (args := #[Value.ref b]) (first := s) (o := none) (s := s) (idx := []) x1
    exact ⟨a2, q1⟩
  have o1 := va_Oof (A := fun q => s.heap.size ≤ q) x1 e1 hA
  have z1 := va_Zof (A := fun q => s.heap.size ≤ q) (hts _ (List.mem_append_right _ (wm2 (List.mem_of_getElem? (i := 169) rfl)))) (hts _ (List.mem_append_right _ (wm1 (List.mem_of_getElem? (i := 10) rfl)))) e1 hA
  have x2 : (Cond.exactly (.static "CellWindows$Kind" "TWO_RESTS" "LCellWindows$Kind;") "CellWindows$Kind").before #[Value.ref b] s = true := (hf (Cond.exactly (.static "CellWindows$Kind" "TWO_RESTS" "LCellWindows$Kind;") "CellWindows$Kind") (by decide +kernel))
  obtain ⟨q2, e2⟩ : ∃ q : Nat, (Term.static "CellWindows$Kind" "TWO_RESTS" "LCellWindows$Kind;").eval #[Value.ref b] s none [] s = some (.ref q) := by
    obtain ⟨a2, c, cA, kA, q1, -⟩ := Cond.exactly_spec (args := #[Value.ref b]) (first := s) (o := none) (s := s) (idx := []) x2
    exact ⟨a2, q1⟩
  have o2 := va_Oof (A := fun q => s.heap.size ≤ q) x2 e2 hA
  have z2 := va_Zof (A := fun q => s.heap.size ≤ q) (hts _ (List.mem_append_right _ (wm2 (List.mem_of_getElem? (i := 198) rfl)))) (hts _ (List.mem_append_right _ (wm1 (List.mem_of_getElem? (i := 10) rfl)))) e2 hA
  have x3 : (Cond.exactly (.static "CellWindows$Kind" "SLANT" "LCellWindows$Kind;") "CellWindows$Kind").before #[Value.ref b] s = true := (hf (Cond.exactly (.static "CellWindows$Kind" "SLANT" "LCellWindows$Kind;") "CellWindows$Kind") (by decide +kernel))
  obtain ⟨q3, e3⟩ : ∃ q : Nat, (Term.static "CellWindows$Kind" "SLANT" "LCellWindows$Kind;").eval #[Value.ref b] s none [] s = some (.ref q) := by
    obtain ⟨a2, c, cA, kA, q1, -⟩ := Cond.exactly_spec (args := #[Value.ref b]) (first := s) (o := none) (s := s) (idx := []) x3
    exact ⟨a2, q1⟩
  have o3 := va_Oof (A := fun q => s.heap.size ≤ q) x3 e3 hA
  have z3 := va_Zof (A := fun q => s.heap.size ≤ q) (hts _ (List.mem_append_right _ (wm2 (List.mem_of_getElem? (i := 220) rfl)))) (hts _ (List.mem_append_right _ (wm1 (List.mem_of_getElem? (i := 10) rfl)))) e3 hA
  have n01 : q0 ≠ q1 := va_neR (hf (Cond.not (.eq (.static "CellWindows$Kind" "WHOLE" "LCellWindows$Kind;") (.static "CellWindows$Kind" "REST" "LCellWindows$Kind;"))) (by decide +kernel)) e0 e1
  have n02 : q0 ≠ q2 := va_neR (hf (Cond.not (.eq (.static "CellWindows$Kind" "WHOLE" "LCellWindows$Kind;") (.static "CellWindows$Kind" "TWO_RESTS" "LCellWindows$Kind;"))) (by decide +kernel)) e0 e2
  have n03 : q0 ≠ q3 := va_neR (hf (Cond.not (.eq (.static "CellWindows$Kind" "WHOLE" "LCellWindows$Kind;") (.static "CellWindows$Kind" "SLANT" "LCellWindows$Kind;"))) (by decide +kernel)) e0 e3
  have n12 : q1 ≠ q2 := va_neR (hf (Cond.not (.eq (.static "CellWindows$Kind" "REST" "LCellWindows$Kind;") (.static "CellWindows$Kind" "TWO_RESTS" "LCellWindows$Kind;"))) (by decide +kernel)) e1 e2
  have n13 : q1 ≠ q3 := va_neR (hf (Cond.not (.eq (.static "CellWindows$Kind" "REST" "LCellWindows$Kind;") (.static "CellWindows$Kind" "SLANT" "LCellWindows$Kind;"))) (by decide +kernel)) e1 e3
  have n23 : q2 ≠ q3 := va_neR (hf (Cond.not (.eq (.static "CellWindows$Kind" "TWO_RESTS" "LCellWindows$Kind;") (.static "CellWindows$Kind" "SLANT" "LCellWindows$Kind;"))) (by decide +kernel)) e2 e3
  obtain ⟨q4, e4, t4⟩ := va_Tof (args := #[Value.ref b]) (s := s) (tm := (.static "CellWindows$1" "$SwitchMap$CellWindows$Kind" "[I")) (ty := .int) (N := 4) (f := fun j => .int (nI j)) (A := fun q => s.heap.size ≤ q) (by decide) (hf (Cond.arrayOf (.static "CellWindows$1" "$SwitchMap$CellWindows$Kind" "[I") .int) (by decide +kernel)) (va_eqv (hf (Cond.eq (.length (.static "CellWindows$1" "$SwitchMap$CellWindows$Kind" "[I")) (.int (4 : Int32))) (by decide +kernel)) rfl) (fun j hj => by
    rcases (show j = 0 ∨ j = 1 ∨ j = 2 ∨ j = 3 by omega) with rfl | rfl | rfl | rfl
    · exact va_eqv (hf (Cond.eq (.elem (.static "CellWindows$1" "$SwitchMap$CellWindows$Kind" "[I") (.int (0 : Int32))) (.int (0 : Int32))) (by decide +kernel)) rfl
    · exact va_eqv (hf (Cond.eq (.elem (.static "CellWindows$1" "$SwitchMap$CellWindows$Kind" "[I") (.int (1 : Int32))) (.int (1 : Int32))) (by decide +kernel)) rfl
    · exact va_eqv (hf (Cond.eq (.elem (.static "CellWindows$1" "$SwitchMap$CellWindows$Kind" "[I") (.int (2 : Int32))) (.int (2 : Int32))) (by decide +kernel)) rfl
    · exact va_eqv (hf (Cond.eq (.elem (.static "CellWindows$1" "$SwitchMap$CellWindows$Kind" "[I") (.int (3 : Int32))) (.int (3 : Int32))) (by decide +kernel)) rfl) hA
  have z4 := va_Zof (A := fun q => s.heap.size ≤ q) (hts _ (List.mem_append_right _ (wm2 (List.mem_of_getElem? (i := 179) rfl)))) (hts _ (List.mem_append_right _ (wm1 (List.mem_of_getElem? (i := 17) rfl)))) e4 hA
  obtain ⟨q5, e5, t5⟩ := va_Tof (args := #[Value.ref b]) (s := s) (tm := (.static "java/util/ArrayList" "DEFAULTCAPACITY_EMPTY_ELEMENTDATA" "[Ljava/lang/Object;")) (ty := .object "java/lang/Object") (N := 0) (f := fun _ => .null) (A := fun q => s.heap.size ≤ q) (by decide) (hf (Cond.arrayOf (.static "java/util/ArrayList" "DEFAULTCAPACITY_EMPTY_ELEMENTDATA" "[Ljava/lang/Object;") (.object "java/lang/Object")) (by decide +kernel)) (va_eqv (hf (Cond.eq (.length (.static "java/util/ArrayList" "DEFAULTCAPACITY_EMPTY_ELEMENTDATA" "[Ljava/lang/Object;")) (.int (0 : Int32))) (by decide +kernel)) rfl) (fun j hj => absurd hj (Nat.not_lt_zero _)) hA
  have z5 := va_Zof (A := fun q => s.heap.size ≤ q) (hts _ (List.mem_append_right _ (wm1 (List.mem_of_getElem? (i := 55) rfl)))) (hts _ (List.mem_append_right _ (wm1 (List.mem_of_getElem? (i := 5) rfl)))) e5 hA
  have y1 := vx_Zqof (A := fun q => s.heap.size ≤ q) (hts _ (List.mem_append_right _ (wm3 (List.mem_of_getElem? (i := 67) rfl)))) (hts _ (List.mem_append_right _ (wm1 (List.mem_of_getElem? (i := 18) rfl)))) (hf (Cond.isRef (.static "java/lang/Throwable" "UNASSIGNED_STACK" "[Ljava/lang/StackTraceElement;")) (by decide +kernel)) hA
  have y2 := vx_Zqof (A := fun q => s.heap.size ≤ q) (hts _ (List.mem_append_right _ (wm3 (List.mem_of_getElem? (i := 69) rfl)))) (hts _ (List.mem_append_right _ (wm1 (List.mem_of_getElem? (i := 18) rfl)))) (hf (Cond.isRef (.static "java/lang/Throwable" "SUPPRESSED_SENTINEL" "Ljava/util/List;")) (by decide +kernel)) hA
  obtain ⟨s0, f0⟩ : ∃ q : Nat, (Term.string "CellWindows" 277).eval #[Value.ref b] s none [] s = some (.ref q) := by
    obtain ⟨a2, c, cA, kA, q1, -⟩ := Cond.exactly_spec (args := #[Value.ref b]) (first := s) (o := none) (s := s) (idx := []) (hf (Cond.exactly (.string "CellWindows" (277 : Nat)) "java/lang/String") (by decide +kernel))
    exact ⟨a2, q1⟩
  have r0 : vk_R "CellWindows" 277 "out of range" s0 s := vk_R.of (hts _ (List.mem_append_right _ (wm3 (List.mem_of_getElem? (i := 81) rfl)))) f0
  obtain ⟨s1, f1⟩ : ∃ q : Nat, (Term.string "CellWindows" 79).eval #[Value.ref b] s none [] s = some (.ref q) := by
    obtain ⟨a2, c, cA, kA, q1, -⟩ := Cond.exactly_spec (args := #[Value.ref b]) (first := s) (o := none) (s := s) (idx := []) (hf (Cond.exactly (.string "CellWindows" (79 : Nat)) "java/lang/String") (by decide +kernel))
    exact ⟨a2, q1⟩
  have r1 : vk_R "CellWindows" 79 "there are 4 statements" s1 s := vk_R.of (hts _ (List.mem_append_right _ (wm3 (List.mem_of_getElem? (i := 117) rfl)))) f1
  obtain ⟨s2, f2⟩ : ∃ q : Nat, (Term.string "CellWindows" 280).eval #[Value.ref b] s none [] s = some (.ref q) := by
    obtain ⟨a2, c, cA, kA, q1, -⟩ := Cond.exactly_spec (args := #[Value.ref b]) (first := s) (o := none) (s := s) (idx := []) (hf (Cond.exactly (.string "CellWindows" (280 : Nat)) "java/lang/String") (by decide +kernel))
    exact ⟨a2, q1⟩
  have r2 : vk_R "CellWindows" 280 "no such statement" s2 s := vk_R.of (hts _ (List.mem_append_right _ (wm3 (List.mem_of_getElem? (i := 237) rfl)))) f2
  obtain ⟨s3, f3⟩ : ∃ q : Nat, (Term.string "CellWindows" 103).eval #[Value.ref b] s none [] s = some (.ref q) := by
    obtain ⟨a2, c, cA, kA, q1, -⟩ := Cond.exactly_spec (args := #[Value.ref b]) (first := s) (o := none) (s := s) (idx := []) (hf (Cond.exactly (.string "CellWindows" (103 : Nat)) "java/lang/String") (by decide +kernel))
    exact ⟨a2, q1⟩
  have r3 : vk_R "CellWindows" 103 "the statement has 4 reads" s3 s := vk_R.of (hts _ (List.mem_append_right _ (wm4 (List.mem_of_getElem? (i := 4) rfl)))) f3
  obtain ⟨s4, f4⟩ : ∃ q : Nat, (Term.string "CellWindows" 317).eval #[Value.ref b] s none [] s = some (.ref q) := by
    obtain ⟨a2, c, cA, kA, q1, -⟩ := Cond.exactly_spec (args := #[Value.ref b]) (first := s) (o := none) (s := s) (idx := []) (hf (Cond.exactly (.string "CellWindows" (317 : Nat)) "java/lang/String") (by decide +kernel))
    exact ⟨a2, q1⟩
  have r4 : vk_R "CellWindows" 317 "no schedule with weights 0 to 3 is allowed" s4 s := vk_R.of (hts _ (List.mem_append_right _ (wm4 (List.mem_of_getElem? (i := 97) rfl)))) f4
  obtain ⟨s5, f5⟩ : ∃ q : Nat, (Term.string "CellWindows" 285).eval #[Value.ref b] s none [] s = some (.ref q) := by
    obtain ⟨a2, c, cA, kA, q1, -⟩ := Cond.exactly_spec (args := #[Value.ref b]) (first := s) (o := none) (s := s) (idx := []) (hf (Cond.exactly (.string "CellWindows" (285 : Nat)) "java/lang/String") (by decide +kernel))
    exact ⟨a2, q1⟩
  have r5 : vk_R "CellWindows" 285 "no such point" s5 s := vk_R.of (hts _ (List.mem_append_right _ (wm4 (List.mem_of_getElem? (i := 119) rfl)))) f5
  obtain ⟨s6, f6⟩ : ∃ q : Nat, (Term.string "CellWindows" 140).eval #[Value.ref b] s none [] s = some (.ref q) := by
    obtain ⟨a2, c, cA, kA, q1, -⟩ := Cond.exactly_spec (args := #[Value.ref b]) (first := s) (o := none) (s := s) (idx := []) (hf (Cond.exactly (.string "CellWindows" (140 : Nat)) "java/lang/String") (by decide +kernel))
    exact ⟨a2, q1⟩
  have r6 : vk_R "CellWindows" 140 "no such read" s6 s := vk_R.of (hts _ (List.mem_append_right _ (wm4 (List.mem_of_getElem? (i := 125) rfl)))) f6
  obtain ⟨s7, f7⟩ : ∃ q : Nat, (Term.string "CellWindows" 290).eval #[Value.ref b] s none [] s = some (.ref q) := by
    obtain ⟨a2, c, cA, kA, q1, -⟩ := Cond.exactly_spec (args := #[Value.ref b]) (first := s) (o := none) (s := s) (idx := []) (hf (Cond.exactly (.string "CellWindows" (290 : Nat)) "java/lang/String") (by decide +kernel))
    exact ⟨a2, q1⟩
  have r7 : vk_R "CellWindows" 290 "no such step" s7 s := vk_R.of (hts _ (List.mem_append_right _ (wm4 (List.mem_of_getElem? (i := 135) rfl)))) f7
  refine ⟨fun i => match i with
    | 0 => q0
    | 1 => q1
    | 2 => q2
    | 3 => q3
    | 4 => q4
    | 5 => q5
    | 10 => s0
    | 11 => s1
    | 12 => s2
    | 13 => s3
    | 14 => s4
    | 15 => s5
    | 16 => s6
    | 17 => s7
    | _ => 0, ⟨?_, ?_, ?_, ?_, ⟨z4, t4⟩, ⟨z5, t5⟩, ⟨y1, y2⟩, ?_, ?_, ?_⟩, ?_⟩
  · intro w hw
    have h1 := List.mem_filter.mp hw
    have h0 : w.onTables = true := by
      have hg := h1.2
      cases w <;> first | rfl | cases hg
    exact va_Nw.of h0 (hts w (List.mem_append_right _ h1.1))
  · intro i hi
    rcases (show i = 0 ∨ i = 1 ∨ i = 2 ∨ i = 3 by omega) with rfl | rfl | rfl | rfl
    · exact ⟨z0, o0⟩
    · exact ⟨z1, o1⟩
    · exact ⟨z2, o2⟩
    · exact ⟨z3, o3⟩
  · intro i hi
    have hE4 : va_Ef 4 "java/lang/Enum" "ordinal" "I" (fun i => .int (nI i)) (fun i => match i with
      | 0 => q0
      | 1 => q1
      | 2 => q2
      | _ => q3) (fun q => s.heap.size ≤ q) s s.heap := by
      refine va_Efof (args := #[Value.ref b]) (E := "CellWindows$Kind") (d0 := "LCellWindows$Kind;") (nm := ["WHOLE", "REST", "TWO_RESTS", "SLANT"]) (tm := fun i => .int (nI i)) (fun i hi => ?_) (fun i hi => ?_) (fun i hi => rfl) hA
      · rcases (show i = 0 ∨ i = 1 ∨ i = 2 ∨ i = 3 by omega) with rfl | rfl | rfl | rfl
        · exact e0
        · exact e1
        · exact e2
        · exact e3
      · rcases (show i = 0 ∨ i = 1 ∨ i = 2 ∨ i = 3 by omega) with rfl | rfl | rfl | rfl
        · exact (hf (Cond.eq (.field (.static "CellWindows$Kind" "WHOLE" "LCellWindows$Kind;") "java/lang/Enum" "ordinal" "I") (.int (0 : Int32))) (by decide +kernel))
        · exact (hf (Cond.eq (.field (.static "CellWindows$Kind" "REST" "LCellWindows$Kind;") "java/lang/Enum" "ordinal" "I") (.int (1 : Int32))) (by decide +kernel))
        · exact (hf (Cond.eq (.field (.static "CellWindows$Kind" "TWO_RESTS" "LCellWindows$Kind;") "java/lang/Enum" "ordinal" "I") (.int (2 : Int32))) (by decide +kernel))
        · exact (hf (Cond.eq (.field (.static "CellWindows$Kind" "SLANT" "LCellWindows$Kind;") "java/lang/Enum" "ordinal" "I") (.int (3 : Int32))) (by decide +kernel))
    have h := hE4 i hi
    rcases (show i = 0 ∨ i = 1 ∨ i = 2 ∨ i = 3 by omega) with rfl | rfl | rfl | rfl <;> exact h
  · intro i j hi hj e
    rcases (show i = 0 ∨ i = 1 ∨ i = 2 ∨ i = 3 by omega) with rfl | rfl | rfl | rfl <;> rcases (show j = 0 ∨ j = 1 ∨ j = 2 ∨ j = 3 by omega) with rfl | rfl | rfl | rfl
    · rfl
    · exact absurd e n01
    · exact absurd e n02
    · exact absurd e n03
    · exact absurd e.symm n01
    · rfl
    · exact absurd e n12
    · exact absurd e n13
    · exact absurd e.symm n02
    · exact absurd e.symm n12
    · rfl
    · exact absurd e n23
    · exact absurd e.symm n03
    · exact absurd e.symm n13
    · exact absurd e.symm n23
    · rfl
  · intro i hi
    rcases (show i = 0 ∨ i = 1 ∨ i = 2 ∨ i = 3 ∨ i = 4 ∨ i = 5 ∨ i = 6 ∨ i = 7 by omega) with rfl | rfl | rfl | rfl | rfl | rfl | rfl | rfl
    · exact r0
    · exact r1
    · exact r2
    · exact r3
    · exact r4
    · exact r5
    · exact r6
    · exact r7
  · exact va_AO.of (hts _ (List.mem_append_right _ (wm3 (List.mem_of_getElem? (i := 210) rfl))))
  · exact (hts _ (List.mem_append_right _ (wm1 (List.mem_of_getElem? (i := 202) rfl))))
  · exact all3 (va_Nc.of (hf (Cond.not (.castable "java/lang/IllegalStateException" "java/lang/IllegalArgumentException")) (by decide +kernel))) (va_Nc.of (hf (Cond.not (.castable "java/lang/IllegalArgumentException" "java/lang/IndexOutOfBoundsException")) (by decide +kernel))) (va_Nc.of (hf (Cond.not (.castable "java/lang/IllegalStateException" "java/lang/IndexOutOfBoundsException")) (by decide +kernel)))
theorem K_start {b : Nat} {s : State} (hts : ∀ w ∈ lw_tbl, w.before #[Value.ref b] s = true) : ∃ (D : va_G) (cA : Nat → ClassId), va_K D vwCl (tyL cA) s := by
  have hW : ∀ w ∈ WA, w.before #[Value.ref b] s = true := fun w h => hts w (wa_tbl h)
  obtain ⟨c0, i0, h0⟩ := u_known (C := RJx4a65c) (T := TJx4a65c) (N := 3) (n := 3) hW iwJx4a65c (hW _ w43)
  obtain ⟨c1, i1, h1⟩ := u_known (C := RX1) (T := TX1) (N := 4) (n := 4) hW iwX1 (hW _ w211)
  obtain ⟨c2, i2, h2⟩ := u_known (C := RX2) (T := TX2) (N := 7) (n := 7) hW iwX2 (hW _ w139)
  obtain ⟨c3, i3, h3⟩ := u_known (C := RX4) (T := TX4) (N := 2) (n := 2) hW iwX4 (hW _ w196)
  obtain ⟨c4, i4, h4⟩ := u_known (C := RX5) (T := TX5) (N := 4) (n := 4) hW iwX5 (hW _ w37)
  obtain ⟨c5, i5, h5⟩ := u_known (C := RX6) (T := TX6) (N := 4) (n := 4) hW iwX6 (hW _ w726)
  obtain ⟨c6, i6, h6⟩ := u_known (C := RX7) (T := TX7) (N := 5) (n := 5) hW iwX7 (hW _ w604)
  obtain ⟨c7, i7, h7⟩ := u_known (C := RX8) (T := TX8) (N := 5) (n := 5) hW iwX8 (hW _ w168)
  obtain ⟨c8, i8, h8⟩ := u_known (C := RX9) (T := TX9) (N := 10) (n := 10) hW iwX9 (hW _ w92)
  obtain ⟨c9, i9, h9⟩ := u_known (C := RX10) (T := TX10) (N := 9) (n := 9) hW iwX10 (hW _ w29)
  obtain ⟨d0, k0, m0, a0, a1, a2⟩ := Cond.arrayClass_spec (hW _ w137)
  obtain ⟨d1, k1, m1, b0, b1, b2⟩ := Cond.arrayClass_spec (hW _ w166)
  obtain ⟨d2, k2, m2, g0, g1, g2⟩ := Cond.arrayClass_spec (hW _ w587)
  obtain ⟨m3, d3, k3, o0, -, o1, o2, o3⟩ := Cond.arrayOver_spec (hts _ (List.mem_append_right _ (wm3 (List.mem_of_getElem? (i := 210) rfl))))
  obtain ⟨m4, d4, k4, p0, p1, p2, p3⟩ := Cond.arrayOver_specA (hts _ (List.mem_append_right _ (wm1 (List.mem_of_getElem? (i := 202) rfl))))
  refine ⟨(fun k => match k with
    | 0 => c0
    | 1 => c1
    | 2 => c2
    | 3 => c3
    | 4 => c4
    | 5 => c5
    | 6 => c6
    | 7 => c7
    | 8 => c8
    | _ => c9, fun k => match k with
    | 0 => i0
    | 1 => i1
    | 2 => i2
    | 3 => i3
    | 4 => i4
    | 5 => i5
    | 6 => i6
    | 7 => i7
    | 8 => i8
    | _ => i9), (fun k => match k with
    | 0 => d0
    | 1 => d1
    | 2 => d2
    | 3 => d3
    | _ => d4), fun k q hq => ?_, fun k q hq => ?_⟩
  · match k, hq with
    | 0, hq => cases hq; exact h0
    | 1, hq => cases hq; exact h1
    | 2, hq => cases hq; exact h2
    | 3, hq => cases hq; exact h3
    | 4, hq => cases hq; exact h4
    | 5, hq => cases hq; exact h5
    | 6, hq => cases hq; exact h6
    | 7, hq => cases hq; exact h7
    | 8, hq => cases hq; exact h8
    | 9, hq => cases hq; exact h9
    | k + 10, hq => simp [vwCl] at hq
  · match k, hq with
    | 0, hq => cases hq; exact ⟨fun n z => ⟨(fun k h => by cases h), k0, a1, m0, a2⟩, a0⟩
    | 1, hq => cases hq; exact ⟨fun n z => ⟨(fun k h => by cases h), k1, b1, m1, b2⟩, b0⟩
    | 2, hq => cases hq; exact ⟨fun n z => ⟨(fun k h => by cases h), k2, g1, m2, g2⟩, g0⟩
    | 3, hq => cases hq; exact ⟨fun n z => ⟨(fun k h => by cases h), k3, o1, m3, o2⟩, k3, m3, o1, o2, o0, o3⟩
    | 4, hq => cases hq; exact ⟨fun n z => ⟨(fun k h => by cases h), k4, p1, m4, p2⟩, p3⟩
    | k + 5, hq => simp [tyL] at hq

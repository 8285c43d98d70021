/-! the law's start: what the launch gives -/
theorem EX_start {b : Nat} {s : State} (hts : ∀ w ∈ lw_tbl, w.before #[Value.ref b] s = true) (hgv : (Jvm.Cond.and given_1 narrow_1).before #[Value.ref b] s = true) : ∃ en : Nat → Nat, EX en (fun q => s.heap.size ≤ q) s s.heap := by
  have hf : ∀ c ∈ flatC (Jvm.Cond.and given_1 narrow_1), c.before #[Value.ref b] s = true := flat_of_before _ hgv
  have hA : ∀ a : Nat, a < s.heap.size → ¬ (fun q : Nat => s.heap.size ≤ q) a := fun a h1 h2 => Nat.not_le.mpr h1 h2
  have x0 : (Cond.exactly (.static "CellWindows$Kind" "WHOLE" "LCellWindows$Kind;") "CellWindows$Kind").before #[Value.ref b] s = true := (hf (Cond.exactly (.static "CellWindows$Kind" "WHOLE" "LCellWindows$Kind;") "CellWindows$Kind") (by decide +kernel))
  obtain ⟨q0, e0⟩ : ∃ q : Nat, (Term.static "CellWindows$Kind" "WHOLE" "LCellWindows$Kind;").eval #[Value.ref b] s none [] s = some (.ref q) := by
    obtain ⟨a2, c, cA, kA, q1, -⟩ := Cond.exactly_spec (args := #[Value.ref b]) (first := s) (o := none) (s := s) (idx := []) x0
    exact ⟨a2, q1⟩
  have o0 := va_Oof (A := fun q => s.heap.size ≤ q) x0 e0 hA
  have z0 := va_Zof (A := fun q => s.heap.size ≤ q) (hts _ (List.mem_append_right _ (wm1 (List.mem_of_getElem? (i := 175) rfl)))) (hts _ (List.mem_append_right _ (wm1 (List.mem_of_getElem? (i := 10) rfl)))) e0 hA
  have x1 : (Cond.exactly (.static "CellWindows$Kind" "REST" "LCellWindows$Kind;") "CellWindows$Kind").before #[Value.ref b] s = true := (hf (Cond.exactly (.static "CellWindows$Kind" "REST" "LCellWindows$Kind;") "CellWindows$Kind") (by decide +kernel))
  obtain ⟨q1, e1⟩ : ∃ q : Nat, (Term.static "CellWindows$Kind" "REST" "LCellWindows$Kind;").eval #[Value.ref b] s none [] s = some (.ref q) := by
    obtain ⟨a2, c, cA, kA, q1, -⟩ := Cond.exactly_spec (args := #[Value.ref b]) (first := s) (o := none) (s := s) (idx := []) x1
    exact ⟨a2, q1⟩
  have o1 := va_Oof (A := fun q => s.heap.size ≤ q) x1 e1 hA
  have z1 := va_Zof (A := fun q => s.heap.size ≤ q) (hts _ (List.mem_append_right _ (wm2 (List.mem_of_getElem? (i := 170) rfl)))) (hts _ (List.mem_append_right _ (wm1 (List.mem_of_getElem? (i := 10) rfl)))) e1 hA
  have x2 : (Cond.exactly (.static "CellWindows$Kind" "TWO_RESTS" "LCellWindows$Kind;") "CellWindows$Kind").before #[Value.ref b] s = true := (hf (Cond.exactly (.static "CellWindows$Kind" "TWO_RESTS" "LCellWindows$Kind;") "CellWindows$Kind") (by decide +kernel))
  obtain ⟨q2, e2⟩ : ∃ q : Nat, (Term.static "CellWindows$Kind" "TWO_RESTS" "LCellWindows$Kind;").eval #[Value.ref b] s none [] s = some (.ref q) := by
    obtain ⟨a2, c, cA, kA, q1, -⟩ := Cond.exactly_spec (args := #[Value.ref b]) (first := s) (o := none) (s := s) (idx := []) x2
    exact ⟨a2, q1⟩
  have o2 := va_Oof (A := fun q => s.heap.size ≤ q) x2 e2 hA
  have z2 := va_Zof (A := fun q => s.heap.size ≤ q) (hts _ (List.mem_append_right _ (wm2 (List.mem_of_getElem? (i := 199) rfl)))) (hts _ (List.mem_append_right _ (wm1 (List.mem_of_getElem? (i := 10) rfl)))) e2 hA
  have x3 : (Cond.exactly (.static "CellWindows$Kind" "SLANT" "LCellWindows$Kind;") "CellWindows$Kind").before #[Value.ref b] s = true := (hf (Cond.exactly (.static "CellWindows$Kind" "SLANT" "LCellWindows$Kind;") "CellWindows$Kind") (by decide +kernel))
  obtain ⟨q3, e3⟩ : ∃ q : Nat, (Term.static "CellWindows$Kind" "SLANT" "LCellWindows$Kind;").eval #[Value.ref b] s none [] s = some (.ref q) := by
    obtain ⟨a2, c, cA, kA, q1, -⟩ := Cond.exactly_spec (args := #[Value.ref b]) (first := s) (o := none) (s := s) (idx := []) x3
    exact ⟨a2, q1⟩
  have o3 := va_Oof (A := fun q => s.heap.size ≤ q) x3 e3 hA
  have z3 := va_Zof (A := fun q => s.heap.size ≤ q) (hts _ (List.mem_append_right _ (wm2 (List.mem_of_getElem? (i := 221) rfl)))) (hts _ (List.mem_append_right _ (wm1 (List.mem_of_getElem? (i := 10) rfl)))) e3 hA
  have n01 : q0 ≠ q1 := va_neR (hf (Cond.not (.eq (.static "CellWindows$Kind" "WHOLE" "LCellWindows$Kind;") (.static "CellWindows$Kind" "REST" "LCellWindows$Kind;"))) (by decide +kernel)) e0 e1
  have n02 : q0 ≠ q2 := va_neR (hf (Cond.not (.eq (.static "CellWindows$Kind" "WHOLE" "LCellWindows$Kind;") (.static "CellWindows$Kind" "TWO_RESTS" "LCellWindows$Kind;"))) (by decide +kernel)) e0 e2
  have n03 : q0 ≠ q3 := va_neR (hf (Cond.not (.eq (.static "CellWindows$Kind" "WHOLE" "LCellWindows$Kind;") (.static "CellWindows$Kind" "SLANT" "LCellWindows$Kind;"))) (by decide +kernel)) e0 e3
  have n12 : q1 ≠ q2 := va_neR (hf (Cond.not (.eq (.static "CellWindows$Kind" "REST" "LCellWindows$Kind;") (.static "CellWindows$Kind" "TWO_RESTS" "LCellWindows$Kind;"))) (by decide +kernel)) e1 e2
  have n13 : q1 ≠ q3 := va_neR (hf (Cond.not (.eq (.static "CellWindows$Kind" "REST" "LCellWindows$Kind;") (.static "CellWindows$Kind" "SLANT" "LCellWindows$Kind;"))) (by decide +kernel)) e1 e3
  have n23 : q2 ≠ q3 := va_neR (hf (Cond.not (.eq (.static "CellWindows$Kind" "TWO_RESTS" "LCellWindows$Kind;") (.static "CellWindows$Kind" "SLANT" "LCellWindows$Kind;"))) (by decide +kernel)) e2 e3
  obtain ⟨q4, e4, t4⟩ := va_Tof (args := #[Value.ref b]) (s := s) (tm := (.static "CellWindows$1" "$SwitchMap$CellWindows$Kind" "[I")) (ty := .int) (N := 4) (f := fun j => .int (nI j)) (A := fun q => s.heap.size ≤ q) (by decide) (hf (Cond.arrayOf (.static "CellWindows$1" "$SwitchMap$CellWindows$Kind" "[I") .int) (by decide +kernel)) (va_eqv (hf (Cond.eq (.length (.static "CellWindows$1" "$SwitchMap$CellWindows$Kind" "[I")) (.int (4 : Int32))) (by decide +kernel)) rfl) (fun j hj => by
    rcases (show j = 0 ∨ j = 1 ∨ j = 2 ∨ j = 3 by omega) with rfl | rfl | rfl | rfl
    · exact va_eqv (hf (Cond.eq (.elem (.static "CellWindows$1" "$SwitchMap$CellWindows$Kind" "[I") (.int (0 : Int32))) (.int (0 : Int32))) (by decide +kernel)) rfl
    · exact va_eqv (hf (Cond.eq (.elem (.static "CellWindows$1" "$SwitchMap$CellWindows$Kind" "[I") (.int (1 : Int32))) (.int (1 : Int32))) (by decide +kernel)) rfl
    · exact va_eqv (hf (Cond.eq (.elem (.static "CellWindows$1" "$SwitchMap$CellWindows$Kind" "[I") (.int (2 : Int32))) (.int (2 : Int32))) (by decide +kernel)) rfl
    · exact va_eqv (hf (Cond.eq (.elem (.static "CellWindows$1" "$SwitchMap$CellWindows$Kind" "[I") (.int (3 : Int32))) (.int (3 : Int32))) (by decide +kernel)) rfl) hA
  have z4 := va_Zof (A := fun q => s.heap.size ≤ q) (hts _ (List.mem_append_right _ (wm2 (List.mem_of_getElem? (i := 180) rfl)))) (hts _ (List.mem_append_right _ (wm1 (List.mem_of_getElem? (i := 28) rfl)))) e4 hA
  obtain ⟨q5, e5, t5⟩ := va_Tof (args := #[Value.ref b]) (s := s) (tm := (.static "java/util/ArrayList" "DEFAULTCAPACITY_EMPTY_ELEMENTDATA" "[Ljava/lang/Object;")) (ty := .object "java/lang/Object") (N := 0) (f := fun _ => .null) (A := fun q => s.heap.size ≤ q) (by decide) (hf (Cond.arrayOf (.static "java/util/ArrayList" "DEFAULTCAPACITY_EMPTY_ELEMENTDATA" "[Ljava/lang/Object;") (.object "java/lang/Object")) (by decide +kernel)) (va_eqv (hf (Cond.eq (.length (.static "java/util/ArrayList" "DEFAULTCAPACITY_EMPTY_ELEMENTDATA" "[Ljava/lang/Object;")) (.int (0 : Int32))) (by decide +kernel)) rfl) (fun j hj => absurd hj (Nat.not_lt_zero _)) hA
  have z5 := va_Zof (A := fun q => s.heap.size ≤ q) (hts _ (List.mem_append_right _ (wm1 (List.mem_of_getElem? (i := 56) rfl)))) (hts _ (List.mem_append_right _ (wm1 (List.mem_of_getElem? (i := 5) rfl)))) e5 hA
  have y1 := vx_Zqof (A := fun q => s.heap.size ≤ q) (hts _ (List.mem_append_right _ (wm3 (List.mem_of_getElem? (i := 63) rfl)))) (hts _ (List.mem_append_right _ (wm1 (List.mem_of_getElem? (i := 14) rfl)))) (hf (Cond.isRef (.static "java/lang/Throwable" "UNASSIGNED_STACK" "[Ljava/lang/StackTraceElement;")) (by decide +kernel)) hA
  have y2 := vx_Zqof (A := fun q => s.heap.size ≤ q) (hts _ (List.mem_append_right _ (wm3 (List.mem_of_getElem? (i := 65) rfl)))) (hts _ (List.mem_append_right _ (wm1 (List.mem_of_getElem? (i := 14) rfl)))) (hf (Cond.isRef (.static "java/lang/Throwable" "SUPPRESSED_SENTINEL" "Ljava/util/List;")) (by decide +kernel)) hA
  obtain ⟨s0, f0⟩ : ∃ q : Nat, (Term.string "CellWindows" 277).eval #[Value.ref b] s none [] s = some (.ref q) := by
    obtain ⟨a2, c, cA, kA, q1, -⟩ := Cond.exactly_spec (args := #[Value.ref b]) (first := s) (o := none) (s := s) (idx := []) (hf (Cond.exactly (.string "CellWindows" (277 : Nat)) "java/lang/String") (by decide +kernel))
    exact ⟨a2, q1⟩
  have r0 : vk_R "CellWindows" 277 "out of range" s0 s := vk_R.of (hts _ (List.mem_append_right _ (wm3 (List.mem_of_getElem? (i := 77) rfl)))) f0
  obtain ⟨s1, f1⟩ : ∃ q : Nat, (Term.string "CellWindows" 79).eval #[Value.ref b] s none [] s = some (.ref q) := by
    obtain ⟨a2, c, cA, kA, q1, -⟩ := Cond.exactly_spec (args := #[Value.ref b]) (first := s) (o := none) (s := s) (idx := []) (hf (Cond.exactly (.string "CellWindows" (79 : Nat)) "java/lang/String") (by decide +kernel))
    exact ⟨a2, q1⟩
  have r1 : vk_R "CellWindows" 79 "there are 4 statements" s1 s := vk_R.of (hts _ (List.mem_append_right _ (wm3 (List.mem_of_getElem? (i := 113) rfl)))) f1
  obtain ⟨s2, f2⟩ : ∃ q : Nat, (Term.string "CellWindows" 280).eval #[Value.ref b] s none [] s = some (.ref q) := by
    obtain ⟨a2, c, cA, kA, q1, -⟩ := Cond.exactly_spec (args := #[Value.ref b]) (first := s) (o := none) (s := s) (idx := []) (hf (Cond.exactly (.string "CellWindows" (280 : Nat)) "java/lang/String") (by decide +kernel))
    exact ⟨a2, q1⟩
  have r2 : vk_R "CellWindows" 280 "no such statement" s2 s := vk_R.of (hts _ (List.mem_append_right _ (wm3 (List.mem_of_getElem? (i := 238) rfl)))) f2
  obtain ⟨s3, f3⟩ : ∃ q : Nat, (Term.string "CellWindows" 103).eval #[Value.ref b] s none [] s = some (.ref q) := by
    obtain ⟨a2, c, cA, kA, q1, -⟩ := Cond.exactly_spec (args := #[Value.ref b]) (first := s) (o := none) (s := s) (idx := []) (hf (Cond.exactly (.string "CellWindows" (103 : Nat)) "java/lang/String") (by decide +kernel))
    exact ⟨a2, q1⟩
  have r3 : vk_R "CellWindows" 103 "the statement has 4 reads" s3 s := vk_R.of (hts _ (List.mem_append_right _ (wm4 (List.mem_of_getElem? (i := 5) rfl)))) f3
  obtain ⟨s4, f4⟩ : ∃ q : Nat, (Term.string "CellWindows" 140).eval #[Value.ref b] s none [] s = some (.ref q) := by
    obtain ⟨a2, c, cA, kA, q1, -⟩ := Cond.exactly_spec (args := #[Value.ref b]) (first := s) (o := none) (s := s) (idx := []) (hf (Cond.exactly (.string "CellWindows" (140 : Nat)) "java/lang/String") (by decide +kernel))
    exact ⟨a2, q1⟩
  have r4 : vk_R "CellWindows" 140 "no such read" s4 s := vk_R.of (hts _ (List.mem_append_right _ (wm4 (List.mem_of_getElem? (i := 96) rfl)))) f4
  obtain ⟨s5, f5⟩ : ∃ q : Nat, (Term.string "CellWindows" 285).eval #[Value.ref b] s none [] s = some (.ref q) := by
    obtain ⟨a2, c, cA, kA, q1, -⟩ := Cond.exactly_spec (args := #[Value.ref b]) (first := s) (o := none) (s := s) (idx := []) (hf (Cond.exactly (.string "CellWindows" (285 : Nat)) "java/lang/String") (by decide +kernel))
    exact ⟨a2, q1⟩
  have r5 : vk_R "CellWindows" 285 "no such point" s5 s := vk_R.of (hts _ (List.mem_append_right _ (wm4 (List.mem_of_getElem? (i := 114) rfl)))) f5
  obtain ⟨s6, f6⟩ : ∃ q : Nat, (Term.string "CellWindows" 290).eval #[Value.ref b] s none [] s = some (.ref q) := by
    obtain ⟨a2, c, cA, kA, q1, -⟩ := Cond.exactly_spec (args := #[Value.ref b]) (first := s) (o := none) (s := s) (idx := []) (hf (Cond.exactly (.string "CellWindows" (290 : Nat)) "java/lang/String") (by decide +kernel))
    exact ⟨a2, q1⟩
  have r6 : vk_R "CellWindows" 290 "no such step" s6 s := vk_R.of (hts _ (List.mem_append_right _ (wm4 (List.mem_of_getElem? (i := 127) rfl)))) f6
  obtain ⟨s7, f7⟩ : ∃ q : Nat, (Term.string "CellWindows" 317).eval #[Value.ref b] s none [] s = some (.ref q) := by
    obtain ⟨a2, c, cA, kA, q1, -⟩ := Cond.exactly_spec (args := #[Value.ref b]) (first := s) (o := none) (s := s) (idx := []) (hf (Cond.exactly (.string "CellWindows" (317 : Nat)) "java/lang/String") (by decide +kernel))
    exact ⟨a2, q1⟩
  have r7 : vk_R "CellWindows" 317 "no schedule with weights 0 to 3 is allowed" s7 s := vk_R.of (hts _ (List.mem_append_right _ (wm5 (List.mem_of_getElem? (i := 89) rfl)))) f7
  refine ⟨fun i => match i with
    | 0 => q0
    | 1 => q1
    | 2 => q2
    | 3 => q3
    | 4 => q4
    | 5 => q5
    | 10 => s0
    | 11 => s1
    | 12 => s2
    | 13 => s3
    | 14 => s4
    | 15 => s5
    | 16 => s6
    | 17 => s7
    | _ => 0, ⟨?_, ?_, ?_, ?_, ⟨z4, t4⟩, ⟨z5, t5⟩, ⟨y1, y2⟩, ?_, ?_, ?_⟩, ?_⟩
  · intro w hw
    have h1 := List.mem_filter.mp hw
    have h0 : w.onTables = true := by
      have hg := h1.2
      cases w <;> first | rfl | cases hg
    exact va_Nw.of h0 (hts w (List.mem_append_right _ h1.1))
  · intro i hi
    rcases (show i = 0 ∨ i = 1 ∨ i = 2 ∨ i = 3 by omega) with rfl | rfl | rfl | rfl
    · exact ⟨z0, o0⟩
    · exact ⟨z1, o1⟩
    · exact ⟨z2, o2⟩
    · exact ⟨z3, o3⟩
  · intro i hi
    have hE4 : va_Ef 4 "java/lang/Enum" "ordinal" "I" (fun i => .int (nI i)) (fun i => match i with
      | 0 => q0
      | 1 => q1
      | 2 => q2
      | _ => q3) (fun q => s.heap.size ≤ q) s s.heap := by
      refine va_Efof (args := #[Value.ref b]) (E := "CellWindows$Kind") (d0 := "LCellWindows$Kind;") (nm := ["WHOLE", "REST", "TWO_RESTS", "SLANT"]) (tm := fun i => .int (nI i)) (fun i hi => ?_) (fun i hi => ?_) (fun i hi => rfl) hA
      · rcases (show i = 0 ∨ i = 1 ∨ i = 2 ∨ i = 3 by omega) with rfl | rfl | rfl | rfl
        · exact e0
        · exact e1
        · exact e2
        · exact e3
      · rcases (show i = 0 ∨ i = 1 ∨ i = 2 ∨ i = 3 by omega) with rfl | rfl | rfl | rfl
        · exact (hf (Cond.eq (.field (.static "CellWindows$Kind" "WHOLE" "LCellWindows$Kind;") "java/lang/Enum" "ordinal" "I") (.int (0 : Int32))) (by decide +kernel))
        · exact (hf (Cond.eq (.field (.static "CellWindows$Kind" "REST" "LCellWindows$Kind;") "java/lang/Enum" "ordinal" "I") (.int (1 : Int32))) (by decide +kernel))
        · exact (hf (Cond.eq (.field (.static "CellWindows$Kind" "TWO_RESTS" "LCellWindows$Kind;") "java/lang/Enum" "ordinal" "I") (.int (2 : Int32))) (by decide +kernel))
        · exact (hf (Cond.eq (.field (.static "CellWindows$Kind" "SLANT" "LCellWindows$Kind;") "java/lang/Enum" "ordinal" "I") (.int (3 : Int32))) (by decide +kernel))
    have h := hE4 i hi
    rcases (show i = 0 ∨ i = 1 ∨ i = 2 ∨ i = 3 by omega) with rfl | rfl | rfl | rfl <;> exact h
  · intro i j hi hj e
    rcases (show i = 0 ∨ i = 1 ∨ i = 2 ∨ i = 3 by omega) with rfl | rfl | rfl | rfl <;> rcases (show j = 0 ∨ j = 1 ∨ j = 2 ∨ j = 3 by omega) with rfl | rfl | rfl | rfl
    · rfl
    · exact absurd e n01
    · exact absurd e n02
    · exact absurd e n03
    · exact absurd e.symm n01
    · rfl
    · exact absurd e n12
    · exact absurd e n13
    · exact absurd e.symm n02
    · exact absurd e.symm n12
    · rfl
    · exact absurd e n23
    · exact absurd e.symm n03
    · exact absurd e.symm n13
    · exact absurd e.symm n23
    · rfl
  · intro i hi
    rcases (show i = 0 ∨ i = 1 ∨ i = 2 ∨ i = 3 ∨ i = 4 ∨ i = 5 ∨ i = 6 ∨ i = 7 by omega) with rfl | rfl | rfl | rfl | rfl | rfl | rfl | rfl
    · exact r0
    · exact r1
    · exact r2
    · exact r3
    · exact r4
    · exact r5
    · exact r6
    · exact r7
  · exact va_AO.of (hts _ (List.mem_append_right _ (wm3 (List.mem_of_getElem? (i := 207) rfl))))
  · exact (hts _ (List.mem_append_right _ (wm1 (List.mem_of_getElem? (i := 203) rfl))))
  · exact all3 (va_Nc.of (hf (Cond.not (.castable "java/lang/IllegalStateException" "java/lang/IllegalArgumentException")) (by decide +kernel))) (va_Nc.of (hf (Cond.not (.castable "java/lang/IllegalArgumentException" "java/lang/IndexOutOfBoundsException")) (by decide +kernel))) (va_Nc.of (hf (Cond.not (.castable "java/lang/IllegalStateException" "java/lang/IndexOutOfBoundsException")) (by decide +kernel)))
theorem K_start {b : Nat} {s : State} (hts : ∀ w ∈ lw_tbl, w.before #[Value.ref b] s = true) : ∃ (D : va_G) (cA : Nat → ClassId), va_K D vwCl (tyL cA) s := by
  have hW : ∀ w ∈ WA, w.before #[Value.ref b] s = true := fun w h => hts w (wa_tbl h)
  obtain ⟨c0, i0, h0⟩ := u_known (C := RJx4a65c) (T := TJx4a65c) (N := 3) (n := 3) hW iwJx4a65c (hW _ w44)
  obtain ⟨c1, i1, h1⟩ := u_known (C := RX1) (T := TX1) (N := 4) (n := 4) hW iwX1 (hW _ w212)
  obtain ⟨c2, i2, h2⟩ := u_known (C := RX2) (T := TX2) (N := 7) (n := 7) hW iwX2 (hW _ w140)
  obtain ⟨c3, i3, h3⟩ := u_known (C := RX4) (T := TX4) (N := 2) (n := 2) hW iwX4 (hW _ w197)
  obtain ⟨c4, i4, h4⟩ := u_known (C := RX5) (T := TX5) (N := 4) (n := 4) hW iwX5 (hW _ w38)
  obtain ⟨c5, i5, h5⟩ := u_known (C := RX6) (T := TX6) (N := 4) (n := 4) hW iwX6 (hW _ w727)
  obtain ⟨c6, i6, h6⟩ := u_known (C := RX7) (T := TX7) (N := 5) (n := 5) hW iwX7 (hW _ w600)
  obtain ⟨c7, i7, h7⟩ := u_known (C := RX8) (T := TX8) (N := 5) (n := 5) hW iwX8 (hW _ w169)
  obtain ⟨c8, i8, h8⟩ := u_known (C := RX9) (T := TX9) (N := 10) (n := 10) hW iwX9 (hW _ w93)
  obtain ⟨c9, i9, h9⟩ := u_known (C := RX10) (T := TX10) (N := 9) (n := 9) hW iwX10 (hW _ w30)
  obtain ⟨c10, i10, h10⟩ := u_known (C := RX11) (T := TX11) (N := 30) (n := 30) hW iwX11 (hW _ w1065)
  obtain ⟨d0, k0, m0, a0, a1, a2⟩ := Cond.arrayClass_spec (hW _ w138)
  obtain ⟨d1, k1, m1, b0, b1, b2⟩ := Cond.arrayClass_spec (hW _ w167)
  obtain ⟨d2, k2, m2, g0, g1, g2⟩ := Cond.arrayClass_spec (hW _ w1494)
  obtain ⟨m3, d3, k3, o0, -, o1, o2, o3⟩ := Cond.arrayOver_spec (hts _ (List.mem_append_right _ (wm3 (List.mem_of_getElem? (i := 207) rfl))))
  obtain ⟨m4, d4, k4, p0, p1, p2, p3⟩ := Cond.arrayOver_specA (hts _ (List.mem_append_right _ (wm1 (List.mem_of_getElem? (i := 203) rfl))))
  refine ⟨(fun k => match k with
    | 0 => c0
    | 1 => c1
    | 2 => c2
    | 3 => c3
    | 4 => c4
    | 5 => c5
    | 6 => c6
    | 7 => c7
    | 8 => c8
    | 9 => c9
    | _ => c10, fun k => match k with
    | 0 => i0
    | 1 => i1
    | 2 => i2
    | 3 => i3
    | 4 => i4
    | 5 => i5
    | 6 => i6
    | 7 => i7
    | 8 => i8
    | 9 => i9
    | _ => i10), (fun k => match k with
    | 0 => d0
    | 1 => d1
    | 2 => d2
    | 3 => d3
    | _ => d4), fun k q hq => ?_, fun k q hq => ?_⟩
  · match k, hq with
    | 0, hq => cases hq; exact h0
    | 1, hq => cases hq; exact h1
    | 2, hq => cases hq; exact h2
    | 3, hq => cases hq; exact h3
    | 4, hq => cases hq; exact h4
    | 5, hq => cases hq; exact h5
    | 6, hq => cases hq; exact h6
    | 7, hq => cases hq; exact h7
    | 8, hq => cases hq; exact h8
    | 9, hq => cases hq; exact h9
    | 10, hq => cases hq; exact h10
    | k + 11, hq => simp [vwCl] at hq
  · match k, hq with
    | 0, hq => cases hq; exact ⟨fun n z => ⟨(fun k h => by cases h), k0, a1, m0, a2⟩, a0⟩
    | 1, hq => cases hq; exact ⟨fun n z => ⟨(fun k h => by cases h), k1, b1, m1, b2⟩, b0⟩
    | 2, hq => cases hq; exact ⟨fun n z => ⟨(fun k h => by cases h), k2, g1, m2, g2⟩, g0⟩
    | 3, hq => cases hq; exact ⟨fun n z => ⟨(fun k h => by cases h), k3, o1, m3, o2⟩, k3, m3, o1, o2, o0, o3⟩
    | 4, hq => cases hq; exact ⟨fun n z => ⟨(fun k h => by cases h), k4, p1, m4, p2⟩, p3⟩
    | k + 5, hq => simp [tyL] at hq
abbrev sX11_initA : SI := (cX11_init, RX11, 1, none, ⟨1, 21, 4896, 20⟩)
set_option maxRecDepth 100000 in
set_option maxHeartbeats 4000000 in
theorem k_w11_init (en : Nat → Nat) (a : Nat) : MC (EN en) yX11_init sX11_initA [.ref a] [(a, .inr (10, [.int (zI 0), .int (zI 0), .int (zI 0), .null, .null, .null, .null, .null, .null, .null, .null, .int (zI 0), .int (zI 0), .null, .null, .null, .null, .null, .null, .null, .null, .null, .null, .null, .null, .null, .int (zI 0), .int (zI 0), .int (zI 0), .int (zI 0)]))] (fun v w => ∃ r3_ r4_ r5_ r6_ r7_ r8_ r9_ r10_ r13_ r14_ r15_ r16_ r17_ r18_ r19_ r20_ r21_ r22_ r23_ r24_ r25_ : Nat, v = none ∧ w = [(a, .inr (10, [.int (zI 4), .int (zI 4), .int (zI 0), .ref r3_, .ref r4_, .ref r5_, .ref r6_, .ref r7_, .ref r8_, .ref r9_, .ref r10_, .int (zI 1), .int (zI 0), .ref r13_, .ref r14_, .ref r15_, .ref r16_, .ref r17_, .ref r18_, .ref r19_, .ref r20_, .ref r21_, .ref r22_, .ref r23_, .ref r24_, .ref r25_, .int (zI 0), .int (zI 0), .int (zI 0), .int (zI 0)])), (r3_, iE 0 4 (fun _ => 0)), (r4_, iE 0 4 (fun _ => 0)), (r5_, iE 0 16 (fun _ => 0)), (r6_, iE 0 16 (fun _ => 0)), (r7_, iE 0 16 (fun _ => 0)), (r8_, iE 0 16 (fun _ => 0)), (r9_, iE 1 4 (fun _ => 0)), (r10_, iE 0 4 (fun _ => 0)), (r13_, iE 0 4 (fun _ => 0)), (r14_, iE 0 4 (fun _ => 0)), (r15_, iE 0 4 (fun _ => 0)), (r16_, iE 0 161 (fun _ => 0)), (r17_, iE 0 256 (fun _ => 0)), (r18_, iE 0 256 (fun _ => 0)), (r19_, iE 0 256 (fun _ => 0)), (r20_, iE 0 256 (fun _ => 0)), (r21_, iE 0 2816 (fun _ => 0)), (r22_, iE 0 256 (fun _ => 0)), (r23_, iE 0 258 (fun _ => 0)), (r24_, iE 1 225 (fun _ => 0)), (r25_, iE 1 64 (fun _ => 0))]) := by
  refine MC.ofI (EN.stb en) rfl [some (.ref a)] 0 rfl rfl rfl (by simp [Value.category]) (Nat.le_of_ble_eq_true rfl) (fun K hK hI hR => ?_)
  refine V_aload_n dX11_init_0 rfl ?_
  refine V_objInit w1069 ⟨Nat.le_of_ble_eq_true rfl, Nat.le_of_ble_eq_true rfl⟩ dX11_init_1 ?_
  refine V_aload_n dX11_init_4 rfl ?_
  refine V_iconst dX11_init_5 ?_
  refine V_putf (C0 := RX11) (T := TX11) (N := 30) (ci := 10) (fs := [.int (zI 0), .int (zI 0), .int (zI 0), .null, .null, .null, .null, .null, .null, .null, .null, .int (zI 0), .int (zI 0), .null, .null, .null, .null, .null, .null, .null, .null, .null, .null, .null, .null, .null, .int (zI 0), .int (zI 0), .int (zI 0), .int (zI 0)]) 0 0 iwX11 (by decide) w1070 (Or.inl rfl) tyX11 tyX11_ok nmX11 rfl rfl rfl (Nat.le_of_ble_eq_true rfl) rfl rfl dX11_init_6 ?_
  show V K sX11_initA 0 0 [(a, .inr (10, [.int (zI 4), .int (zI 0), .int (zI 0), .null, .null, .null, .null, .null, .null, .null, .null, .int (zI 0), .int (zI 0), .null, .null, .null, .null, .null, .null, .null, .null, .null, .null, .null, .null, .null, .int (zI 0), .int (zI 0), .int (zI 0), .int (zI 0)]))] [some (.ref a)] [] 9
  refine V_aload_n dX11_init_9 rfl ?_
  refine V_iconst dX11_init_10 ?_
  refine V_putf (C0 := RX11) (T := TX11) (N := 30) (ci := 10) (fs := [.int (zI 4), .int (zI 0), .int (zI 0), .null, .null, .null, .null, .null, .null, .null, .null, .int (zI 0), .int (zI 0), .null, .null, .null, .null, .null, .null, .null, .null, .null, .null, .null, .null, .null, .int (zI 0), .int (zI 0), .int (zI 0), .int (zI 0)]) 0 1 iwX11 (by decide) w1071 (Or.inl rfl) tyX11 tyX11_ok nmX11 rfl rfl rfl (Nat.le_of_ble_eq_true rfl) rfl rfl dX11_init_11 ?_
  show V K sX11_initA 0 0 [(a, .inr (10, [.int (zI 4), .int (zI 4), .int (zI 0), .null, .null, .null, .null, .null, .null, .null, .null, .int (zI 0), .int (zI 0), .null, .null, .null, .null, .null, .null, .null, .null, .null, .null, .null, .null, .null, .int (zI 0), .int (zI 0), .int (zI 0), .int (zI 0)]))] [some (.ref a)] [] 14
  refine V_aload_n dX11_init_14 rfl ?_
  refine V_iconst dX11_init_15 ?_
  refine V_newa_i (N := 4) w138 rfl (by decide) ⟨Nat.le_of_ble_eq_true rfl, Nat.le_of_ble_eq_true rfl⟩ dX11_init_16 (fun r3_ => ?_)
  show V K sX11_initA 1 4 [(a, .inr (10, [.int (zI 4), .int (zI 4), .int (zI 0), .null, .null, .null, .null, .null, .null, .null, .null, .int (zI 0), .int (zI 0), .null, .null, .null, .null, .null, .null, .null, .null, .null, .null, .null, .null, .null, .int (zI 0), .int (zI 0), .int (zI 0), .int (zI 0)])), (r3_, iE 0 4 (fun _ => 0))] [some (.ref a)] [.ref r3_, .ref a] 18
  refine V_putF (C0 := RX11) (T := TX11) (N := 30) (ci := 10) (fs := [.int (zI 4), .int (zI 4), .int (zI 0), .null, .null, .null, .null, .null, .null, .null, .null, .int (zI 0), .int (zI 0), .null, .null, .null, .null, .null, .null, .null, .null, .null, .null, .null, .null, .null, .int (zI 0), .int (zI 0), .int (zI 0), .int (zI 0)]) hI 0 3 iwX11 (by decide) w1073 rfl tyX11 tyX11_ok nmX11 rfl rfl rfl (Nat.le_of_ble_eq_true rfl) rfl rfl dX11_init_18 ?_
  show V K sX11_initA 1 4 [(a, .inr (10, [.int (zI 4), .int (zI 4), .int (zI 0), .ref r3_, .null, .null, .null, .null, .null, .null, .null, .int (zI 0), .int (zI 0), .null, .null, .null, .null, .null, .null, .null, .null, .null, .null, .null, .null, .null, .int (zI 0), .int (zI 0), .int (zI 0), .int (zI 0)])), (r3_, iE 0 4 (fun _ => 0))] [some (.ref a)] [] 21
  refine V_aload_n dX11_init_21 rfl ?_
  refine V_iconst dX11_init_22 ?_
  refine V_newa_i (N := 4) w138 rfl (by decide) ⟨Nat.le_of_ble_eq_true rfl, Nat.le_of_ble_eq_true rfl⟩ dX11_init_23 (fun r4_ => ?_)
  show V K sX11_initA 2 8 [(a, .inr (10, [.int (zI 4), .int (zI 4), .int (zI 0), .ref r3_, .null, .null, .null, .null, .null, .null, .null, .int (zI 0), .int (zI 0), .null, .null, .null, .null, .null, .null, .null, .null, .null, .null, .null, .null, .null, .int (zI 0), .int (zI 0), .int (zI 0), .int (zI 0)])), (r3_, iE 0 4 (fun _ => 0)), (r4_, iE 0 4 (fun _ => 0))] [some (.ref a)] [.ref r4_, .ref a] 25
  refine V_putF (C0 := RX11) (T := TX11) (N := 30) (ci := 10) (fs := [.int (zI 4), .int (zI 4), .int (zI 0), .ref r3_, .null, .null, .null, .null, .null, .null, .null, .int (zI 0), .int (zI 0), .null, .null, .null, .null, .null, .null, .null, .null, .null, .null, .null, .null, .null, .int (zI 0), .int (zI 0), .int (zI 0), .int (zI 0)]) hI 0 4 iwX11 (by decide) w1074 rfl tyX11 tyX11_ok nmX11 rfl rfl rfl (Nat.le_of_ble_eq_true rfl) rfl rfl dX11_init_25 ?_
  show V K sX11_initA 2 8 [(a, .inr (10, [.int (zI 4), .int (zI 4), .int (zI 0), .ref r3_, .ref r4_, .null, .null, .null, .null, .null, .null, .int (zI 0), .int (zI 0), .null, .null, .null, .null, .null, .null, .null, .null, .null, .null, .null, .null, .null, .int (zI 0), .int (zI 0), .int (zI 0), .int (zI 0)])), (r3_, iE 0 4 (fun _ => 0)), (r4_, iE 0 4 (fun _ => 0))] [some (.ref a)] [] 28
  refine V_aload_n dX11_init_28 rfl ?_
  refine V_bipush dX11_init_29 (by decide) ?_
  refine V_newa_i (N := 16) w138 rfl (by decide) ⟨Nat.le_of_ble_eq_true rfl, Nat.le_of_ble_eq_true rfl⟩ dX11_init_31 (fun r5_ => ?_)
  show V K sX11_initA 3 24 [(a, .inr (10, [.int (zI 4), .int (zI 4), .int (zI 0), .ref r3_, .ref r4_, .null, .null, .null, .null, .null, .null, .int (zI 0), .int (zI 0), .null, .null, .null, .null, .null, .null, .null, .null, .null, .null, .null, .null, .null, .int (zI 0), .int (zI 0), .int (zI 0), .int (zI 0)])), (r3_, iE 0 4 (fun _ => 0)), (r4_, iE 0 4 (fun _ => 0)), (r5_, iE 0 16 (fun _ => 0))] [some (.ref a)] [.ref r5_, .ref a] 33
  refine V_putF (C0 := RX11) (T := TX11) (N := 30) (ci := 10) (fs := [.int (zI 4), .int (zI 4), .int (zI 0), .ref r3_, .ref r4_, .null, .null, .null, .null, .null, .null, .int (zI 0), .int (zI 0), .null, .null, .null, .null, .null, .null, .null, .null, .null, .null, .null, .null, .null, .int (zI 0), .int (zI 0), .int (zI 0), .int (zI 0)]) hI 0 5 iwX11 (by decide) w1075 rfl tyX11 tyX11_ok nmX11 rfl rfl rfl (Nat.le_of_ble_eq_true rfl) rfl rfl dX11_init_33 ?_
  show V K sX11_initA 3 24 [(a, .inr (10, [.int (zI 4), .int (zI 4), .int (zI 0), .ref r3_, .ref r4_, .ref r5_, .null, .null, .null, .null, .null, .int (zI 0), .int (zI 0), .null, .null, .null, .null, .null, .null, .null, .null, .null, .null, .null, .null, .null, .int (zI 0), .int (zI 0), .int (zI 0), .int (zI 0)])), (r3_, iE 0 4 (fun _ => 0)), (r4_, iE 0 4 (fun _ => 0)), (r5_, iE 0 16 (fun _ => 0))] [some (.ref a)] [] 36
  refine V_aload_n dX11_init_36 rfl ?_
  refine V_bipush dX11_init_37 (by decide) ?_
  refine V_newa_i (N := 16) w138 rfl (by decide) ⟨Nat.le_of_ble_eq_true rfl, Nat.le_of_ble_eq_true rfl⟩ dX11_init_39 (fun r6_ => ?_)
  show V K sX11_initA 4 40 [(a, .inr (10, [.int (zI 4), .int (zI 4), .int (zI 0), .ref r3_, .ref r4_, .ref r5_, .null, .null, .null, .null, .null, .int (zI 0), .int (zI 0), .null, .null, .null, .null, .null, .null, .null, .null, .null, .null, .null, .null, .null, .int (zI 0), .int (zI 0), .int (zI 0), .int (zI 0)])), (r3_, iE 0 4 (fun _ => 0)), (r4_, iE 0 4 (fun _ => 0)), (r5_, iE 0 16 (fun _ => 0)), (r6_, iE 0 16 (fun _ => 0))] [some (.ref a)] [.ref r6_, .ref a] 41
  refine V_putF (C0 := RX11) (T := TX11) (N := 30) (ci := 10) (fs := [.int (zI 4), .int (zI 4), .int (zI 0), .ref r3_, .ref r4_, .ref r5_, .null, .null, .null, .null, .null, .int (zI 0), .int (zI 0), .null, .null, .null, .null, .null, .null, .null, .null, .null, .null, .null, .null, .null, .int (zI 0), .int (zI 0), .int (zI 0), .int (zI 0)]) hI 0 6 iwX11 (by decide) w1076 rfl tyX11 tyX11_ok nmX11 rfl rfl rfl (Nat.le_of_ble_eq_true rfl) rfl rfl dX11_init_41 ?_
  show V K sX11_initA 4 40 [(a, .inr (10, [.int (zI 4), .int (zI 4), .int (zI 0), .ref r3_, .ref r4_, .ref r5_, .ref r6_, .null, .null, .null, .null, .int (zI 0), .int (zI 0), .null, .null, .null, .null, .null, .null, .null, .null, .null, .null, .null, .null, .null, .int (zI 0), .int (zI 0), .int (zI 0), .int (zI 0)])), (r3_, iE 0 4 (fun _ => 0)), (r4_, iE 0 4 (fun _ => 0)), (r5_, iE 0 16 (fun _ => 0)), (r6_, iE 0 16 (fun _ => 0))] [some (.ref a)] [] 44
  refine V_aload_n dX11_init_44 rfl ?_
  refine V_bipush dX11_init_45 (by decide) ?_
  refine V_newa_i (N := 16) w138 rfl (by decide) ⟨Nat.le_of_ble_eq_true rfl, Nat.le_of_ble_eq_true rfl⟩ dX11_init_47 (fun r7_ => ?_)
  show V K sX11_initA 5 56 [(a, .inr (10, [.int (zI 4), .int (zI 4), .int (zI 0), .ref r3_, .ref r4_, .ref r5_, .ref r6_, .null, .null, .null, .null, .int (zI 0), .int (zI 0), .null, .null, .null, .null, .null, .null, .null, .null, .null, .null, .null, .null, .null, .int (zI 0), .int (zI 0), .int (zI 0), .int (zI 0)])), (r3_, iE 0 4 (fun _ => 0)), (r4_, iE 0 4 (fun _ => 0)), (r5_, iE 0 16 (fun _ => 0)), (r6_, iE 0 16 (fun _ => 0)), (r7_, iE 0 16 (fun _ => 0))] [some (.ref a)] [.ref r7_, .ref a] 49
  refine V_putF (C0 := RX11) (T := TX11) (N := 30) (ci := 10) (fs := [.int (zI 4), .int (zI 4), .int (zI 0), .ref r3_, .ref r4_, .ref r5_, .ref r6_, .null, .null, .null, .null, .int (zI 0), .int (zI 0), .null, .null, .null, .null, .null, .null, .null, .null, .null, .null, .null, .null, .null, .int (zI 0), .int (zI 0), .int (zI 0), .int (zI 0)]) hI 0 7 iwX11 (by decide) w1077 rfl tyX11 tyX11_ok nmX11 rfl rfl rfl (Nat.le_of_ble_eq_true rfl) rfl rfl dX11_init_49 ?_
  show V K sX11_initA 5 56 [(a, .inr (10, [.int (zI 4), .int (zI 4), .int (zI 0), .ref r3_, .ref r4_, .ref r5_, .ref r6_, .ref r7_, .null, .null, .null, .int (zI 0), .int (zI 0), .null, .null, .null, .null, .null, .null, .null, .null, .null, .null, .null, .null, .null, .int (zI 0), .int (zI 0), .int (zI 0), .int (zI 0)])), (r3_, iE 0 4 (fun _ => 0)), (r4_, iE 0 4 (fun _ => 0)), (r5_, iE 0 16 (fun _ => 0)), (r6_, iE 0 16 (fun _ => 0)), (r7_, iE 0 16 (fun _ => 0))] [some (.ref a)] [] 52
  refine V_aload_n dX11_init_52 rfl ?_
  refine V_bipush dX11_init_53 (by decide) ?_
  refine V_newa_i (N := 16) w138 rfl (by decide) ⟨Nat.le_of_ble_eq_true rfl, Nat.le_of_ble_eq_true rfl⟩ dX11_init_55 (fun r8_ => ?_)
  show V K sX11_initA 6 72 [(a, .inr (10, [.int (zI 4), .int (zI 4), .int (zI 0), .ref r3_, .ref r4_, .ref r5_, .ref r6_, .ref r7_, .null, .null, .null, .int (zI 0), .int (zI 0), .null, .null, .null, .null, .null, .null, .null, .null, .null, .null, .null, .null, .null, .int (zI 0), .int (zI 0), .int (zI 0), .int (zI 0)])), (r3_, iE 0 4 (fun _ => 0)), (r4_, iE 0 4 (fun _ => 0)), (r5_, iE 0 16 (fun _ => 0)), (r6_, iE 0 16 (fun _ => 0)), (r7_, iE 0 16 (fun _ => 0)), (r8_, iE 0 16 (fun _ => 0))] [some (.ref a)] [.ref r8_, .ref a] 57
  refine V_putF (C0 := RX11) (T := TX11) (N := 30) (ci := 10) (fs := [.int (zI 4), .int (zI 4), .int (zI 0), .ref r3_, .ref r4_, .ref r5_, .ref r6_, .ref r7_, .null, .null, .null, .int (zI 0), .int (zI 0), .null, .null, .null, .null, .null, .null, .null, .null, .null, .null, .null, .null, .null, .int (zI 0), .int (zI 0), .int (zI 0), .int (zI 0)]) hI 0 8 iwX11 (by decide) w1078 rfl tyX11 tyX11_ok nmX11 rfl rfl rfl (Nat.le_of_ble_eq_true rfl) rfl rfl dX11_init_57 ?_
  show V K sX11_initA 6 72 [(a, .inr (10, [.int (zI 4), .int (zI 4), .int (zI 0), .ref r3_, .ref r4_, .ref r5_, .ref r6_, .ref r7_, .ref r8_, .null, .null, .int (zI 0), .int (zI 0), .null, .null, .null, .null, .null, .null, .null, .null, .null, .null, .null, .null, .null, .int (zI 0), .int (zI 0), .int (zI 0), .int (zI 0)])), (r3_, iE 0 4 (fun _ => 0)), (r4_, iE 0 4 (fun _ => 0)), (r5_, iE 0 16 (fun _ => 0)), (r6_, iE 0 16 (fun _ => 0)), (r7_, iE 0 16 (fun _ => 0)), (r8_, iE 0 16 (fun _ => 0))] [some (.ref a)] [] 60
  refine V_aload_n dX11_init_60 rfl ?_
  refine V_iconst dX11_init_61 ?_
  refine V_newa_z (N := 4) w167 rfl (by decide) ⟨Nat.le_of_ble_eq_true rfl, Nat.le_of_ble_eq_true rfl⟩ dX11_init_62 (fun r9_ => ?_)
  show V K sX11_initA 7 76 [(a, .inr (10, [.int (zI 4), .int (zI 4), .int (zI 0), .ref r3_, .ref r4_, .ref r5_, .ref r6_, .ref r7_, .ref r8_, .null, .null, .int (zI 0), .int (zI 0), .null, .null, .null, .null, .null, .null, .null, .null, .null, .null, .null, .null, .null, .int (zI 0), .int (zI 0), .int (zI 0), .int (zI 0)])), (r3_, iE 0 4 (fun _ => 0)), (r4_, iE 0 4 (fun _ => 0)), (r5_, iE 0 16 (fun _ => 0)), (r6_, iE 0 16 (fun _ => 0)), (r7_, iE 0 16 (fun _ => 0)), (r8_, iE 0 16 (fun _ => 0)), (r9_, iE 1 4 (fun _ => 0))] [some (.ref a)] [.ref r9_, .ref a] 64
  refine V_putF (C0 := RX11) (T := TX11) (N := 30) (ci := 10) (fs := [.int (zI 4), .int (zI 4), .int (zI 0), .ref r3_, .ref r4_, .ref r5_, .ref r6_, .ref r7_, .ref r8_, .null, .null, .int (zI 0), .int (zI 0), .null, .null, .null, .null, .null, .null, .null, .null, .null, .null, .null, .null, .null, .int (zI 0), .int (zI 0), .int (zI 0), .int (zI 0)]) hI 0 9 iwX11 (by decide) w1079 rfl tyX11 tyX11_ok nmX11 rfl rfl rfl (Nat.le_of_ble_eq_true rfl) rfl rfl dX11_init_64 ?_
  show V K sX11_initA 7 76 [(a, .inr (10, [.int (zI 4), .int (zI 4), .int (zI 0), .ref r3_, .ref r4_, .ref r5_, .ref r6_, .ref r7_, .ref r8_, .ref r9_, .null, .int (zI 0), .int (zI 0), .null, .null, .null, .null, .null, .null, .null, .null, .null, .null, .null, .null, .null, .int (zI 0), .int (zI 0), .int (zI 0), .int (zI 0)])), (r3_, iE 0 4 (fun _ => 0)), (r4_, iE 0 4 (fun _ => 0)), (r5_, iE 0 16 (fun _ => 0)), (r6_, iE 0 16 (fun _ => 0)), (r7_, iE 0 16 (fun _ => 0)), (r8_, iE 0 16 (fun _ => 0)), (r9_, iE 1 4 (fun _ => 0))] [some (.ref a)] [] 67
  refine V_aload_n dX11_init_67 rfl ?_
  refine V_iconst dX11_init_68 ?_
  refine V_newa_i (N := 4) w138 rfl (by decide) ⟨Nat.le_of_ble_eq_true rfl, Nat.le_of_ble_eq_true rfl⟩ dX11_init_69 (fun r10_ => ?_)
  show V K sX11_initA 8 80 [(a, .inr (10, [.int (zI 4), .int (zI 4), .int (zI 0), .ref r3_, .ref r4_, .ref r5_, .ref r6_, .ref r7_, .ref r8_, .ref r9_, .null, .int (zI 0), .int (zI 0), .null, .null, .null, .null, .null, .null, .null, .null, .null, .null, .null, .null, .null, .int (zI 0), .int (zI 0), .int (zI 0), .int (zI 0)])), (r3_, iE 0 4 (fun _ => 0)), (r4_, iE 0 4 (fun _ => 0)), (r5_, iE 0 16 (fun _ => 0)), (r6_, iE 0 16 (fun _ => 0)), (r7_, iE 0 16 (fun _ => 0)), (r8_, iE 0 16 (fun _ => 0)), (r9_, iE 1 4 (fun _ => 0)), (r10_, iE 0 4 (fun _ => 0))] [some (.ref a)] [.ref r10_, .ref a] 71
  refine V_putF (C0 := RX11) (T := TX11) (N := 30) (ci := 10) (fs := [.int (zI 4), .int (zI 4), .int (zI 0), .ref r3_, .ref r4_, .ref r5_, .ref r6_, .ref r7_, .ref r8_, .ref r9_, .null, .int (zI 0), .int (zI 0), .null, .null, .null, .null, .null, .null, .null, .null, .null, .null, .null, .null, .null, .int (zI 0), .int (zI 0), .int (zI 0), .int (zI 0)]) hI 0 10 iwX11 (by decide) w1080 rfl tyX11 tyX11_ok nmX11 rfl rfl rfl (Nat.le_of_ble_eq_true rfl) rfl rfl dX11_init_71 ?_
  show V K sX11_initA 8 80 [(a, .inr (10, [.int (zI 4), .int (zI 4), .int (zI 0), .ref r3_, .ref r4_, .ref r5_, .ref r6_, .ref r7_, .ref r8_, .ref r9_, .ref r10_, .int (zI 0), .int (zI 0), .null, .null, .null, .null, .null, .null, .null, .null, .null, .null, .null, .null, .null, .int (zI 0), .int (zI 0), .int (zI 0), .int (zI 0)])), (r3_, iE 0 4 (fun _ => 0)), (r4_, iE 0 4 (fun _ => 0)), (r5_, iE 0 16 (fun _ => 0)), (r6_, iE 0 16 (fun _ => 0)), (r7_, iE 0 16 (fun _ => 0)), (r8_, iE 0 16 (fun _ => 0)), (r9_, iE 1 4 (fun _ => 0)), (r10_, iE 0 4 (fun _ => 0))] [some (.ref a)] [] 74
  refine V_aload_n dX11_init_74 rfl ?_
  refine V_iconst dX11_init_75 ?_
  refine V_putf (C0 := RX11) (T := TX11) (N := 30) (ci := 10) (fs := [.int (zI 4), .int (zI 4), .int (zI 0), .ref r3_, .ref r4_, .ref r5_, .ref r6_, .ref r7_, .ref r8_, .ref r9_, .ref r10_, .int (zI 0), .int (zI 0), .null, .null, .null, .null, .null, .null, .null, .null, .null, .null, .null, .null, .null, .int (zI 0), .int (zI 0), .int (zI 0), .int (zI 0)]) 0 11 iwX11 (by decide) w1081 (Or.inl rfl) tyX11 tyX11_ok nmX11 rfl rfl rfl (Nat.le_of_ble_eq_true rfl) rfl rfl dX11_init_76 ?_
  show V K sX11_initA 8 80 [(a, .inr (10, [.int (zI 4), .int (zI 4), .int (zI 0), .ref r3_, .ref r4_, .ref r5_, .ref r6_, .ref r7_, .ref r8_, .ref r9_, .ref r10_, .int (zI 1), .int (zI 0), .null, .null, .null, .null, .null, .null, .null, .null, .null, .null, .null, .null, .null, .int (zI 0), .int (zI 0), .int (zI 0), .int (zI 0)])), (r3_, iE 0 4 (fun _ => 0)), (r4_, iE 0 4 (fun _ => 0)), (r5_, iE 0 16 (fun _ => 0)), (r6_, iE 0 16 (fun _ => 0)), (r7_, iE 0 16 (fun _ => 0)), (r8_, iE 0 16 (fun _ => 0)), (r9_, iE 1 4 (fun _ => 0)), (r10_, iE 0 4 (fun _ => 0))] [some (.ref a)] [] 79
  refine V_aload_n dX11_init_79 rfl ?_
  refine V_iconst dX11_init_80 ?_
  refine V_newa_i (N := 4) w138 rfl (by decide) ⟨Nat.le_of_ble_eq_true rfl, Nat.le_of_ble_eq_true rfl⟩ dX11_init_81 (fun r13_ => ?_)
  show V K sX11_initA 9 84 [(a, .inr (10, [.int (zI 4), .int (zI 4), .int (zI 0), .ref r3_, .ref r4_, .ref r5_, .ref r6_, .ref r7_, .ref r8_, .ref r9_, .ref r10_, .int (zI 1), .int (zI 0), .null, .null, .null, .null, .null, .null, .null, .null, .null, .null, .null, .null, .null, .int (zI 0), .int (zI 0), .int (zI 0), .int (zI 0)])), (r3_, iE 0 4 (fun _ => 0)), (r4_, iE 0 4 (fun _ => 0)), (r5_, iE 0 16 (fun _ => 0)), (r6_, iE 0 16 (fun _ => 0)), (r7_, iE 0 16 (fun _ => 0)), (r8_, iE 0 16 (fun _ => 0)), (r9_, iE 1 4 (fun _ => 0)), (r10_, iE 0 4 (fun _ => 0)), (r13_, iE 0 4 (fun _ => 0))] [some (.ref a)] [.ref r13_, .ref a] 83
  refine V_putF (C0 := RX11) (T := TX11) (N := 30) (ci := 10) (fs := [.int (zI 4), .int (zI 4), .int (zI 0), .ref r3_, .ref r4_, .ref r5_, .ref r6_, .ref r7_, .ref r8_, .ref r9_, .ref r10_, .int (zI 1), .int (zI 0), .null, .null, .null, .null, .null, .null, .null, .null, .null, .null, .null, .null, .null, .int (zI 0), .int (zI 0), .int (zI 0), .int (zI 0)]) hI 0 13 iwX11 (by decide) w1083 rfl tyX11 tyX11_ok nmX11 rfl rfl rfl (Nat.le_of_ble_eq_true rfl) rfl rfl dX11_init_83 ?_
  show V K sX11_initA 9 84 [(a, .inr (10, [.int (zI 4), .int (zI 4), .int (zI 0), .ref r3_, .ref r4_, .ref r5_, .ref r6_, .ref r7_, .ref r8_, .ref r9_, .ref r10_, .int (zI 1), .int (zI 0), .ref r13_, .null, .null, .null, .null, .null, .null, .null, .null, .null, .null, .null, .null, .int (zI 0), .int (zI 0), .int (zI 0), .int (zI 0)])), (r3_, iE 0 4 (fun _ => 0)), (r4_, iE 0 4 (fun _ => 0)), (r5_, iE 0 16 (fun _ => 0)), (r6_, iE 0 16 (fun _ => 0)), (r7_, iE 0 16 (fun _ => 0)), (r8_, iE 0 16 (fun _ => 0)), (r9_, iE 1 4 (fun _ => 0)), (r10_, iE 0 4 (fun _ => 0)), (r13_, iE 0 4 (fun _ => 0))] [some (.ref a)] [] 86
  refine V_aload_n dX11_init_86 rfl ?_
  refine V_iconst dX11_init_87 ?_
  refine V_newa_i (N := 4) w138 rfl (by decide) ⟨Nat.le_of_ble_eq_true rfl, Nat.le_of_ble_eq_true rfl⟩ dX11_init_88 (fun r14_ => ?_)
  show V K sX11_initA 10 88 [(a, .inr (10, [.int (zI 4), .int (zI 4), .int (zI 0), .ref r3_, .ref r4_, .ref r5_, .ref r6_, .ref r7_, .ref r8_, .ref r9_, .ref r10_, .int (zI 1), .int (zI 0), .ref r13_, .null, .null, .null, .null, .null, .null, .null, .null, .null, .null, .null, .null, .int (zI 0), .int (zI 0), .int (zI 0), .int (zI 0)])), (r3_, iE 0 4 (fun _ => 0)), (r4_, iE 0 4 (fun _ => 0)), (r5_, iE 0 16 (fun _ => 0)), (r6_, iE 0 16 (fun _ => 0)), (r7_, iE 0 16 (fun _ => 0)), (r8_, iE 0 16 (fun _ => 0)), (r9_, iE 1 4 (fun _ => 0)), (r10_, iE 0 4 (fun _ => 0)), (r13_, iE 0 4 (fun _ => 0)), (r14_, iE 0 4 (fun _ => 0))] [some (.ref a)] [.ref r14_, .ref a] 90
  refine V_putF (C0 := RX11) (T := TX11) (N := 30) (ci := 10) (fs := [.int (zI 4), .int (zI 4), .int (zI 0), .ref r3_, .ref r4_, .ref r5_, .ref r6_, .ref r7_, .ref r8_, .ref r9_, .ref r10_, .int (zI 1), .int (zI 0), .ref r13_, .null, .null, .null, .null, .null, .null, .null, .null, .null, .null, .null, .null, .int (zI 0), .int (zI 0), .int (zI 0), .int (zI 0)]) hI 0 14 iwX11 (by decide) w1084 rfl tyX11 tyX11_ok nmX11 rfl rfl rfl (Nat.le_of_ble_eq_true rfl) rfl rfl dX11_init_90 ?_
  show V K sX11_initA 10 88 [(a, .inr (10, [.int (zI 4), .int (zI 4), .int (zI 0), .ref r3_, .ref r4_, .ref r5_, .ref r6_, .ref r7_, .ref r8_, .ref r9_, .ref r10_, .int (zI 1), .int (zI 0), .ref r13_, .ref r14_, .null, .null, .null, .null, .null, .null, .null, .null, .null, .null, .null, .int (zI 0), .int (zI 0), .int (zI 0), .int (zI 0)])), (r3_, iE 0 4 (fun _ => 0)), (r4_, iE 0 4 (fun _ => 0)), (r5_, iE 0 16 (fun _ => 0)), (r6_, iE 0 16 (fun _ => 0)), (r7_, iE 0 16 (fun _ => 0)), (r8_, iE 0 16 (fun _ => 0)), (r9_, iE 1 4 (fun _ => 0)), (r10_, iE 0 4 (fun _ => 0)), (r13_, iE 0 4 (fun _ => 0)), (r14_, iE 0 4 (fun _ => 0))] [some (.ref a)] [] 93
  refine V_aload_n dX11_init_93 rfl ?_
  refine V_iconst dX11_init_94 ?_
  refine V_newa_i (N := 4) w138 rfl (by decide) ⟨Nat.le_of_ble_eq_true rfl, Nat.le_of_ble_eq_true rfl⟩ dX11_init_95 (fun r15_ => ?_)
  show V K sX11_initA 11 92 [(a, .inr (10, [.int (zI 4), .int (zI 4), .int (zI 0), .ref r3_, .ref r4_, .ref r5_, .ref r6_, .ref r7_, .ref r8_, .ref r9_, .ref r10_, .int (zI 1), .int (zI 0), .ref r13_, .ref r14_, .null, .null, .null, .null, .null, .null, .null, .null, .null, .null, .null, .int (zI 0), .int (zI 0), .int (zI 0), .int (zI 0)])), (r3_, iE 0 4 (fun _ => 0)), (r4_, iE 0 4 (fun _ => 0)), (r5_, iE 0 16 (fun _ => 0)), (r6_, iE 0 16 (fun _ => 0)), (r7_, iE 0 16 (fun _ => 0)), (r8_, iE 0 16 (fun _ => 0)), (r9_, iE 1 4 (fun _ => 0)), (r10_, iE 0 4 (fun _ => 0)), (r13_, iE 0 4 (fun _ => 0)), (r14_, iE 0 4 (fun _ => 0)), (r15_, iE 0 4 (fun _ => 0))] [some (.ref a)] [.ref r15_, .ref a] 97
  refine V_putF (C0 := RX11) (T := TX11) (N := 30) (ci := 10) (fs := [.int (zI 4), .int (zI 4), .int (zI 0), .ref r3_, .ref r4_, .ref r5_, .ref r6_, .ref r7_, .ref r8_, .ref r9_, .ref r10_, .int (zI 1), .int (zI 0), .ref r13_, .ref r14_, .null, .null, .null, .null, .null, .null, .null, .null, .null, .null, .null, .int (zI 0), .int (zI 0), .int (zI 0), .int (zI 0)]) hI 0 15 iwX11 (by decide) w1085 rfl tyX11 tyX11_ok nmX11 rfl rfl rfl (Nat.le_of_ble_eq_true rfl) rfl rfl dX11_init_97 ?_
  show V K sX11_initA 11 92 [(a, .inr (10, [.int (zI 4), .int (zI 4), .int (zI 0), .ref r3_, .ref r4_, .ref r5_, .ref r6_, .ref r7_, .ref r8_, .ref r9_, .ref r10_, .int (zI 1), .int (zI 0), .ref r13_, .ref r14_, .ref r15_, .null, .null, .null, .null, .null, .null, .null, .null, .null, .null, .int (zI 0), .int (zI 0), .int (zI 0), .int (zI 0)])), (r3_, iE 0 4 (fun _ => 0)), (r4_, iE 0 4 (fun _ => 0)), (r5_, iE 0 16 (fun _ => 0)), (r6_, iE 0 16 (fun _ => 0)), (r7_, iE 0 16 (fun _ => 0)), (r8_, iE 0 16 (fun _ => 0)), (r9_, iE 1 4 (fun _ => 0)), (r10_, iE 0 4 (fun _ => 0)), (r13_, iE 0 4 (fun _ => 0)), (r14_, iE 0 4 (fun _ => 0)), (r15_, iE 0 4 (fun _ => 0))] [some (.ref a)] [] 100
  refine V_aload_n dX11_init_100 rfl ?_
  refine V_sipush dX11_init_101 (by decide) ?_
  refine V_newa_i (N := 161) w138 rfl (by decide) ⟨Nat.le_of_ble_eq_true rfl, Nat.le_of_ble_eq_true rfl⟩ dX11_init_104 (fun r16_ => ?_)
  show V K sX11_initA 12 253 [(a, .inr (10, [.int (zI 4), .int (zI 4), .int (zI 0), .ref r3_, .ref r4_, .ref r5_, .ref r6_, .ref r7_, .ref r8_, .ref r9_, .ref r10_, .int (zI 1), .int (zI 0), .ref r13_, .ref r14_, .ref r15_, .null, .null, .null, .null, .null, .null, .null, .null, .null, .null, .int (zI 0), .int (zI 0), .int (zI 0), .int (zI 0)])), (r3_, iE 0 4 (fun _ => 0)), (r4_, iE 0 4 (fun _ => 0)), (r5_, iE 0 16 (fun _ => 0)), (r6_, iE 0 16 (fun _ => 0)), (r7_, iE 0 16 (fun _ => 0)), (r8_, iE 0 16 (fun _ => 0)), (r9_, iE 1 4 (fun _ => 0)), (r10_, iE 0 4 (fun _ => 0)), (r13_, iE 0 4 (fun _ => 0)), (r14_, iE 0 4 (fun _ => 0)), (r15_, iE 0 4 (fun _ => 0)), (r16_, iE 0 161 (fun _ => 0))] [some (.ref a)] [.ref r16_, .ref a] 106
  refine V_putF (C0 := RX11) (T := TX11) (N := 30) (ci := 10) (fs := [.int (zI 4), .int (zI 4), .int (zI 0), .ref r3_, .ref r4_, .ref r5_, .ref r6_, .ref r7_, .ref r8_, .ref r9_, .ref r10_, .int (zI 1), .int (zI 0), .ref r13_, .ref r14_, .ref r15_, .null, .null, .null, .null, .null, .null, .null, .null, .null, .null, .int (zI 0), .int (zI 0), .int (zI 0), .int (zI 0)]) hI 0 16 iwX11 (by decide) w1086 rfl tyX11 tyX11_ok nmX11 rfl rfl rfl (Nat.le_of_ble_eq_true rfl) rfl rfl dX11_init_106 ?_
  show V K sX11_initA 12 253 [(a, .inr (10, [.int (zI 4), .int (zI 4), .int (zI 0), .ref r3_, .ref r4_, .ref r5_, .ref r6_, .ref r7_, .ref r8_, .ref r9_, .ref r10_, .int (zI 1), .int (zI 0), .ref r13_, .ref r14_, .ref r15_, .ref r16_, .null, .null, .null, .null, .null, .null, .null, .null, .null, .int (zI 0), .int (zI 0), .int (zI 0), .int (zI 0)])), (r3_, iE 0 4 (fun _ => 0)), (r4_, iE 0 4 (fun _ => 0)), (r5_, iE 0 16 (fun _ => 0)), (r6_, iE 0 16 (fun _ => 0)), (r7_, iE 0 16 (fun _ => 0)), (r8_, iE 0 16 (fun _ => 0)), (r9_, iE 1 4 (fun _ => 0)), (r10_, iE 0 4 (fun _ => 0)), (r13_, iE 0 4 (fun _ => 0)), (r14_, iE 0 4 (fun _ => 0)), (r15_, iE 0 4 (fun _ => 0)), (r16_, iE 0 161 (fun _ => 0))] [some (.ref a)] [] 109
  refine V_aload_n dX11_init_109 rfl ?_
  refine V_sipush dX11_init_110 (by decide) ?_
  refine V_newa_i (N := 256) w138 rfl (by decide) ⟨Nat.le_of_ble_eq_true rfl, Nat.le_of_ble_eq_true rfl⟩ dX11_init_113 (fun r17_ => ?_)
  show V K sX11_initA 13 509 [(a, .inr (10, [.int (zI 4), .int (zI 4), .int (zI 0), .ref r3_, .ref r4_, .ref r5_, .ref r6_, .ref r7_, .ref r8_, .ref r9_, .ref r10_, .int (zI 1), .int (zI 0), .ref r13_, .ref r14_, .ref r15_, .ref r16_, .null, .null, .null, .null, .null, .null, .null, .null, .null, .int (zI 0), .int (zI 0), .int (zI 0), .int (zI 0)])), (r3_, iE 0 4 (fun _ => 0)), (r4_, iE 0 4 (fun _ => 0)), (r5_, iE 0 16 (fun _ => 0)), (r6_, iE 0 16 (fun _ => 0)), (r7_, iE 0 16 (fun _ => 0)), (r8_, iE 0 16 (fun _ => 0)), (r9_, iE 1 4 (fun _ => 0)), (r10_, iE 0 4 (fun _ => 0)), (r13_, iE 0 4 (fun _ => 0)), (r14_, iE 0 4 (fun _ => 0)), (r15_, iE 0 4 (fun _ => 0)), (r16_, iE 0 161 (fun _ => 0)), (r17_, iE 0 256 (fun _ => 0))] [some (.ref a)] [.ref r17_, .ref a] 115
  refine V_putF (C0 := RX11) (T := TX11) (N := 30) (ci := 10) (fs := [.int (zI 4), .int (zI 4), .int (zI 0), .ref r3_, .ref r4_, .ref r5_, .ref r6_, .ref r7_, .ref r8_, .ref r9_, .ref r10_, .int (zI 1), .int (zI 0), .ref r13_, .ref r14_, .ref r15_, .ref r16_, .null, .null, .null, .null, .null, .null, .null, .null, .null, .int (zI 0), .int (zI 0), .int (zI 0), .int (zI 0)]) hI 0 17 iwX11 (by decide) w1087 rfl tyX11 tyX11_ok nmX11 rfl rfl rfl (Nat.le_of_ble_eq_true rfl) rfl rfl dX11_init_115 ?_
  show V K sX11_initA 13 509 [(a, .inr (10, [.int (zI 4), .int (zI 4), .int (zI 0), .ref r3_, .ref r4_, .ref r5_, .ref r6_, .ref r7_, .ref r8_, .ref r9_, .ref r10_, .int (zI 1), .int (zI 0), .ref r13_, .ref r14_, .ref r15_, .ref r16_, .ref r17_, .null, .null, .null, .null, .null, .null, .null, .null, .int (zI 0), .int (zI 0), .int (zI 0), .int (zI 0)])), (r3_, iE 0 4 (fun _ => 0)), (r4_, iE 0 4 (fun _ => 0)), (r5_, iE 0 16 (fun _ => 0)), (r6_, iE 0 16 (fun _ => 0)), (r7_, iE 0 16 (fun _ => 0)), (r8_, iE 0 16 (fun _ => 0)), (r9_, iE 1 4 (fun _ => 0)), (r10_, iE 0 4 (fun _ => 0)), (r13_, iE 0 4 (fun _ => 0)), (r14_, iE 0 4 (fun _ => 0)), (r15_, iE 0 4 (fun _ => 0)), (r16_, iE 0 161 (fun _ => 0)), (r17_, iE 0 256 (fun _ => 0))] [some (.ref a)] [] 118
  refine V_aload_n dX11_init_118 rfl ?_
  refine V_sipush dX11_init_119 (by decide) ?_
  refine V_newa_i (N := 256) w138 rfl (by decide) ⟨Nat.le_of_ble_eq_true rfl, Nat.le_of_ble_eq_true rfl⟩ dX11_init_122 (fun r18_ => ?_)
  show V K sX11_initA 14 765 [(a, .inr (10, [.int (zI 4), .int (zI 4), .int (zI 0), .ref r3_, .ref r4_, .ref r5_, .ref r6_, .ref r7_, .ref r8_, .ref r9_, .ref r10_, .int (zI 1), .int (zI 0), .ref r13_, .ref r14_, .ref r15_, .ref r16_, .ref r17_, .null, .null, .null, .null, .null, .null, .null, .null, .int (zI 0), .int (zI 0), .int (zI 0), .int (zI 0)])), (r3_, iE 0 4 (fun _ => 0)), (r4_, iE 0 4 (fun _ => 0)), (r5_, iE 0 16 (fun _ => 0)), (r6_, iE 0 16 (fun _ => 0)), (r7_, iE 0 16 (fun _ => 0)), (r8_, iE 0 16 (fun _ => 0)), (r9_, iE 1 4 (fun _ => 0)), (r10_, iE 0 4 (fun _ => 0)), (r13_, iE 0 4 (fun _ => 0)), (r14_, iE 0 4 (fun _ => 0)), (r15_, iE 0 4 (fun _ => 0)), (r16_, iE 0 161 (fun _ => 0)), (r17_, iE 0 256 (fun _ => 0)), (r18_, iE 0 256 (fun _ => 0))] [some (.ref a)] [.ref r18_, .ref a] 124
  refine V_putF (C0 := RX11) (T := TX11) (N := 30) (ci := 10) (fs := [.int (zI 4), .int (zI 4), .int (zI 0), .ref r3_, .ref r4_, .ref r5_, .ref r6_, .ref r7_, .ref r8_, .ref r9_, .ref r10_, .int (zI 1), .int (zI 0), .ref r13_, .ref r14_, .ref r15_, .ref r16_, .ref r17_, .null, .null, .null, .null, .null, .null, .null, .null, .int (zI 0), .int (zI 0), .int (zI 0), .int (zI 0)]) hI 0 18 iwX11 (by decide) w1088 rfl tyX11 tyX11_ok nmX11 rfl rfl rfl (Nat.le_of_ble_eq_true rfl) rfl rfl dX11_init_124 ?_
  show V K sX11_initA 14 765 [(a, .inr (10, [.int (zI 4), .int (zI 4), .int (zI 0), .ref r3_, .ref r4_, .ref r5_, .ref r6_, .ref r7_, .ref r8_, .ref r9_, .ref r10_, .int (zI 1), .int (zI 0), .ref r13_, .ref r14_, .ref r15_, .ref r16_, .ref r17_, .ref r18_, .null, .null, .null, .null, .null, .null, .null, .int (zI 0), .int (zI 0), .int (zI 0), .int (zI 0)])), (r3_, iE 0 4 (fun _ => 0)), (r4_, iE 0 4 (fun _ => 0)), (r5_, iE 0 16 (fun _ => 0)), (r6_, iE 0 16 (fun _ => 0)), (r7_, iE 0 16 (fun _ => 0)), (r8_, iE 0 16 (fun _ => 0)), (r9_, iE 1 4 (fun _ => 0)), (r10_, iE 0 4 (fun _ => 0)), (r13_, iE 0 4 (fun _ => 0)), (r14_, iE 0 4 (fun _ => 0)), (r15_, iE 0 4 (fun _ => 0)), (r16_, iE 0 161 (fun _ => 0)), (r17_, iE 0 256 (fun _ => 0)), (r18_, iE 0 256 (fun _ => 0))] [some (.ref a)] [] 127
  refine V_aload_n dX11_init_127 rfl ?_
  refine V_sipush dX11_init_128 (by decide) ?_
  refine V_newa_i (N := 256) w138 rfl (by decide) ⟨Nat.le_of_ble_eq_true rfl, Nat.le_of_ble_eq_true rfl⟩ dX11_init_131 (fun r19_ => ?_)
  show V K sX11_initA 15 1021 [(a, .inr (10, [.int (zI 4), .int (zI 4), .int (zI 0), .ref r3_, .ref r4_, .ref r5_, .ref r6_, .ref r7_, .ref r8_, .ref r9_, .ref r10_, .int (zI 1), .int (zI 0), .ref r13_, .ref r14_, .ref r15_, .ref r16_, .ref r17_, .ref r18_, .null, .null, .null, .null, .null, .null, .null, .int (zI 0), .int (zI 0), .int (zI 0), .int (zI 0)])), (r3_, iE 0 4 (fun _ => 0)), (r4_, iE 0 4 (fun _ => 0)), (r5_, iE 0 16 (fun _ => 0)), (r6_, iE 0 16 (fun _ => 0)), (r7_, iE 0 16 (fun _ => 0)), (r8_, iE 0 16 (fun _ => 0)), (r9_, iE 1 4 (fun _ => 0)), (r10_, iE 0 4 (fun _ => 0)), (r13_, iE 0 4 (fun _ => 0)), (r14_, iE 0 4 (fun _ => 0)), (r15_, iE 0 4 (fun _ => 0)), (r16_, iE 0 161 (fun _ => 0)), (r17_, iE 0 256 (fun _ => 0)), (r18_, iE 0 256 (fun _ => 0)), (r19_, iE 0 256 (fun _ => 0))] [some (.ref a)] [.ref r19_, .ref a] 133
  refine V_putF (C0 := RX11) (T := TX11) (N := 30) (ci := 10) (fs := [.int (zI 4), .int (zI 4), .int (zI 0), .ref r3_, .ref r4_, .ref r5_, .ref r6_, .ref r7_, .ref r8_, .ref r9_, .ref r10_, .int (zI 1), .int (zI 0), .ref r13_, .ref r14_, .ref r15_, .ref r16_, .ref r17_, .ref r18_, .null, .null, .null, .null, .null, .null, .null, .int (zI 0), .int (zI 0), .int (zI 0), .int (zI 0)]) hI 0 19 iwX11 (by decide) w1089 rfl tyX11 tyX11_ok nmX11 rfl rfl rfl (Nat.le_of_ble_eq_true rfl) rfl rfl dX11_init_133 ?_
  show V K sX11_initA 15 1021 [(a, .inr (10, [.int (zI 4), .int (zI 4), .int (zI 0), .ref r3_, .ref r4_, .ref r5_, .ref r6_, .ref r7_, .ref r8_, .ref r9_, .ref r10_, .int (zI 1), .int (zI 0), .ref r13_, .ref r14_, .ref r15_, .ref r16_, .ref r17_, .ref r18_, .ref r19_, .null, .null, .null, .null, .null, .null, .int (zI 0), .int (zI 0), .int (zI 0), .int (zI 0)])), (r3_, iE 0 4 (fun _ => 0)), (r4_, iE 0 4 (fun _ => 0)), (r5_, iE 0 16 (fun _ => 0)), (r6_, iE 0 16 (fun _ => 0)), (r7_, iE 0 16 (fun _ => 0)), (r8_, iE 0 16 (fun _ => 0)), (r9_, iE 1 4 (fun _ => 0)), (r10_, iE 0 4 (fun _ => 0)), (r13_, iE 0 4 (fun _ => 0)), (r14_, iE 0 4 (fun _ => 0)), (r15_, iE 0 4 (fun _ => 0)), (r16_, iE 0 161 (fun _ => 0)), (r17_, iE 0 256 (fun _ => 0)), (r18_, iE 0 256 (fun _ => 0)), (r19_, iE 0 256 (fun _ => 0))] [some (.ref a)] [] 136
  refine V_aload_n dX11_init_136 rfl ?_
  refine V_sipush dX11_init_137 (by decide) ?_
  refine V_newa_i (N := 256) w138 rfl (by decide) ⟨Nat.le_of_ble_eq_true rfl, Nat.le_of_ble_eq_true rfl⟩ dX11_init_140 (fun r20_ => ?_)
  show V K sX11_initA 16 1277 [(a, .inr (10, [.int (zI 4), .int (zI 4), .int (zI 0), .ref r3_, .ref r4_, .ref r5_, .ref r6_, .ref r7_, .ref r8_, .ref r9_, .ref r10_, .int (zI 1), .int (zI 0), .ref r13_, .ref r14_, .ref r15_, .ref r16_, .ref r17_, .ref r18_, .ref r19_, .null, .null, .null, .null, .null, .null, .int (zI 0), .int (zI 0), .int (zI 0), .int (zI 0)])), (r3_, iE 0 4 (fun _ => 0)), (r4_, iE 0 4 (fun _ => 0)), (r5_, iE 0 16 (fun _ => 0)), (r6_, iE 0 16 (fun _ => 0)), (r7_, iE 0 16 (fun _ => 0)), (r8_, iE 0 16 (fun _ => 0)), (r9_, iE 1 4 (fun _ => 0)), (r10_, iE 0 4 (fun _ => 0)), (r13_, iE 0 4 (fun _ => 0)), (r14_, iE 0 4 (fun _ => 0)), (r15_, iE 0 4 (fun _ => 0)), (r16_, iE 0 161 (fun _ => 0)), (r17_, iE 0 256 (fun _ => 0)), (r18_, iE 0 256 (fun _ => 0)), (r19_, iE 0 256 (fun _ => 0)), (r20_, iE 0 256 (fun _ => 0))] [some (.ref a)] [.ref r20_, .ref a] 142
  refine V_putF (C0 := RX11) (T := TX11) (N := 30) (ci := 10) (fs := [.int (zI 4), .int (zI 4), .int (zI 0), .ref r3_, .ref r4_, .ref r5_, .ref r6_, .ref r7_, .ref r8_, .ref r9_, .ref r10_, .int (zI 1), .int (zI 0), .ref r13_, .ref r14_, .ref r15_, .ref r16_, .ref r17_, .ref r18_, .ref r19_, .null, .null, .null, .null, .null, .null, .int (zI 0), .int (zI 0), .int (zI 0), .int (zI 0)]) hI 0 20 iwX11 (by decide) w1090 rfl tyX11 tyX11_ok nmX11 rfl rfl rfl (Nat.le_of_ble_eq_true rfl) rfl rfl dX11_init_142 ?_
  show V K sX11_initA 16 1277 [(a, .inr (10, [.int (zI 4), .int (zI 4), .int (zI 0), .ref r3_, .ref r4_, .ref r5_, .ref r6_, .ref r7_, .ref r8_, .ref r9_, .ref r10_, .int (zI 1), .int (zI 0), .ref r13_, .ref r14_, .ref r15_, .ref r16_, .ref r17_, .ref r18_, .ref r19_, .ref r20_, .null, .null, .null, .null, .null, .int (zI 0), .int (zI 0), .int (zI 0), .int (zI 0)])), (r3_, iE 0 4 (fun _ => 0)), (r4_, iE 0 4 (fun _ => 0)), (r5_, iE 0 16 (fun _ => 0)), (r6_, iE 0 16 (fun _ => 0)), (r7_, iE 0 16 (fun _ => 0)), (r8_, iE 0 16 (fun _ => 0)), (r9_, iE 1 4 (fun _ => 0)), (r10_, iE 0 4 (fun _ => 0)), (r13_, iE 0 4 (fun _ => 0)), (r14_, iE 0 4 (fun _ => 0)), (r15_, iE 0 4 (fun _ => 0)), (r16_, iE 0 161 (fun _ => 0)), (r17_, iE 0 256 (fun _ => 0)), (r18_, iE 0 256 (fun _ => 0)), (r19_, iE 0 256 (fun _ => 0)), (r20_, iE 0 256 (fun _ => 0))] [some (.ref a)] [] 145
  refine V_aload_n dX11_init_145 rfl ?_
  refine V_sipush dX11_init_146 (by decide) ?_
  refine V_newa_i (N := 2816) w138 rfl (by decide) ⟨Nat.le_of_ble_eq_true rfl, Nat.le_of_ble_eq_true rfl⟩ dX11_init_149 (fun r21_ => ?_)
  show V K sX11_initA 17 4093 [(a, .inr (10, [.int (zI 4), .int (zI 4), .int (zI 0), .ref r3_, .ref r4_, .ref r5_, .ref r6_, .ref r7_, .ref r8_, .ref r9_, .ref r10_, .int (zI 1), .int (zI 0), .ref r13_, .ref r14_, .ref r15_, .ref r16_, .ref r17_, .ref r18_, .ref r19_, .ref r20_, .null, .null, .null, .null, .null, .int (zI 0), .int (zI 0), .int (zI 0), .int (zI 0)])), (r3_, iE 0 4 (fun _ => 0)), (r4_, iE 0 4 (fun _ => 0)), (r5_, iE 0 16 (fun _ => 0)), (r6_, iE 0 16 (fun _ => 0)), (r7_, iE 0 16 (fun _ => 0)), (r8_, iE 0 16 (fun _ => 0)), (r9_, iE 1 4 (fun _ => 0)), (r10_, iE 0 4 (fun _ => 0)), (r13_, iE 0 4 (fun _ => 0)), (r14_, iE 0 4 (fun _ => 0)), (r15_, iE 0 4 (fun _ => 0)), (r16_, iE 0 161 (fun _ => 0)), (r17_, iE 0 256 (fun _ => 0)), (r18_, iE 0 256 (fun _ => 0)), (r19_, iE 0 256 (fun _ => 0)), (r20_, iE 0 256 (fun _ => 0)), (r21_, iE 0 2816 (fun _ => 0))] [some (.ref a)] [.ref r21_, .ref a] 151
  refine V_putF (C0 := RX11) (T := TX11) (N := 30) (ci := 10) (fs := [.int (zI 4), .int (zI 4), .int (zI 0), .ref r3_, .ref r4_, .ref r5_, .ref r6_, .ref r7_, .ref r8_, .ref r9_, .ref r10_, .int (zI 1), .int (zI 0), .ref r13_, .ref r14_, .ref r15_, .ref r16_, .ref r17_, .ref r18_, .ref r19_, .ref r20_, .null, .null, .null, .null, .null, .int (zI 0), .int (zI 0), .int (zI 0), .int (zI 0)]) hI 0 21 iwX11 (by decide) w1091 rfl tyX11 tyX11_ok nmX11 rfl rfl rfl (Nat.le_of_ble_eq_true rfl) rfl rfl dX11_init_151 ?_
  show V K sX11_initA 17 4093 [(a, .inr (10, [.int (zI 4), .int (zI 4), .int (zI 0), .ref r3_, .ref r4_, .ref r5_, .ref r6_, .ref r7_, .ref r8_, .ref r9_, .ref r10_, .int (zI 1), .int (zI 0), .ref r13_, .ref r14_, .ref r15_, .ref r16_, .ref r17_, .ref r18_, .ref r19_, .ref r20_, .ref r21_, .null, .null, .null, .null, .int (zI 0), .int (zI 0), .int (zI 0), .int (zI 0)])), (r3_, iE 0 4 (fun _ => 0)), (r4_, iE 0 4 (fun _ => 0)), (r5_, iE 0 16 (fun _ => 0)), (r6_, iE 0 16 (fun _ => 0)), (r7_, iE 0 16 (fun _ => 0)), (r8_, iE 0 16 (fun _ => 0)), (r9_, iE 1 4 (fun _ => 0)), (r10_, iE 0 4 (fun _ => 0)), (r13_, iE 0 4 (fun _ => 0)), (r14_, iE 0 4 (fun _ => 0)), (r15_, iE 0 4 (fun _ => 0)), (r16_, iE 0 161 (fun _ => 0)), (r17_, iE 0 256 (fun _ => 0)), (r18_, iE 0 256 (fun _ => 0)), (r19_, iE 0 256 (fun _ => 0)), (r20_, iE 0 256 (fun _ => 0)), (r21_, iE 0 2816 (fun _ => 0))] [some (.ref a)] [] 154
  refine V_aload_n dX11_init_154 rfl ?_
  refine V_sipush dX11_init_155 (by decide) ?_
  refine V_newa_i (N := 256) w138 rfl (by decide) ⟨Nat.le_of_ble_eq_true rfl, Nat.le_of_ble_eq_true rfl⟩ dX11_init_158 (fun r22_ => ?_)
  show V K sX11_initA 18 4349 [(a, .inr (10, [.int (zI 4), .int (zI 4), .int (zI 0), .ref r3_, .ref r4_, .ref r5_, .ref r6_, .ref r7_, .ref r8_, .ref r9_, .ref r10_, .int (zI 1), .int (zI 0), .ref r13_, .ref r14_, .ref r15_, .ref r16_, .ref r17_, .ref r18_, .ref r19_, .ref r20_, .ref r21_, .null, .null, .null, .null, .int (zI 0), .int (zI 0), .int (zI 0), .int (zI 0)])), (r3_, iE 0 4 (fun _ => 0)), (r4_, iE 0 4 (fun _ => 0)), (r5_, iE 0 16 (fun _ => 0)), (r6_, iE 0 16 (fun _ => 0)), (r7_, iE 0 16 (fun _ => 0)), (r8_, iE 0 16 (fun _ => 0)), (r9_, iE 1 4 (fun _ => 0)), (r10_, iE 0 4 (fun _ => 0)), (r13_, iE 0 4 (fun _ => 0)), (r14_, iE 0 4 (fun _ => 0)), (r15_, iE 0 4 (fun _ => 0)), (r16_, iE 0 161 (fun _ => 0)), (r17_, iE 0 256 (fun _ => 0)), (r18_, iE 0 256 (fun _ => 0)), (r19_, iE 0 256 (fun _ => 0)), (r20_, iE 0 256 (fun _ => 0)), (r21_, iE 0 2816 (fun _ => 0)), (r22_, iE 0 256 (fun _ => 0))] [some (.ref a)] [.ref r22_, .ref a] 160
  refine V_putF (C0 := RX11) (T := TX11) (N := 30) (ci := 10) (fs := [.int (zI 4), .int (zI 4), .int (zI 0), .ref r3_, .ref r4_, .ref r5_, .ref r6_, .ref r7_, .ref r8_, .ref r9_, .ref r10_, .int (zI 1), .int (zI 0), .ref r13_, .ref r14_, .ref r15_, .ref r16_, .ref r17_, .ref r18_, .ref r19_, .ref r20_, .ref r21_, .null, .null, .null, .null, .int (zI 0), .int (zI 0), .int (zI 0), .int (zI 0)]) hI 0 22 iwX11 (by decide) w1092 rfl tyX11 tyX11_ok nmX11 rfl rfl rfl (Nat.le_of_ble_eq_true rfl) rfl rfl dX11_init_160 ?_
  show V K sX11_initA 18 4349 [(a, .inr (10, [.int (zI 4), .int (zI 4), .int (zI 0), .ref r3_, .ref r4_, .ref r5_, .ref r6_, .ref r7_, .ref r8_, .ref r9_, .ref r10_, .int (zI 1), .int (zI 0), .ref r13_, .ref r14_, .ref r15_, .ref r16_, .ref r17_, .ref r18_, .ref r19_, .ref r20_, .ref r21_, .ref r22_, .null, .null, .null, .int (zI 0), .int (zI 0), .int (zI 0), .int (zI 0)])), (r3_, iE 0 4 (fun _ => 0)), (r4_, iE 0 4 (fun _ => 0)), (r5_, iE 0 16 (fun _ => 0)), (r6_, iE 0 16 (fun _ => 0)), (r7_, iE 0 16 (fun _ => 0)), (r8_, iE 0 16 (fun _ => 0)), (r9_, iE 1 4 (fun _ => 0)), (r10_, iE 0 4 (fun _ => 0)), (r13_, iE 0 4 (fun _ => 0)), (r14_, iE 0 4 (fun _ => 0)), (r15_, iE 0 4 (fun _ => 0)), (r16_, iE 0 161 (fun _ => 0)), (r17_, iE 0 256 (fun _ => 0)), (r18_, iE 0 256 (fun _ => 0)), (r19_, iE 0 256 (fun _ => 0)), (r20_, iE 0 256 (fun _ => 0)), (r21_, iE 0 2816 (fun _ => 0)), (r22_, iE 0 256 (fun _ => 0))] [some (.ref a)] [] 163
  refine V_aload_n dX11_init_163 rfl ?_
  refine V_sipush dX11_init_164 (by decide) ?_
  refine V_newa_i (N := 258) w138 rfl (by decide) ⟨Nat.le_of_ble_eq_true rfl, Nat.le_of_ble_eq_true rfl⟩ dX11_init_167 (fun r23_ => ?_)
  show V K sX11_initA 19 4607 [(a, .inr (10, [.int (zI 4), .int (zI 4), .int (zI 0), .ref r3_, .ref r4_, .ref r5_, .ref r6_, .ref r7_, .ref r8_, .ref r9_, .ref r10_, .int (zI 1), .int (zI 0), .ref r13_, .ref r14_, .ref r15_, .ref r16_, .ref r17_, .ref r18_, .ref r19_, .ref r20_, .ref r21_, .ref r22_, .null, .null, .null, .int (zI 0), .int (zI 0), .int (zI 0), .int (zI 0)])), (r3_, iE 0 4 (fun _ => 0)), (r4_, iE 0 4 (fun _ => 0)), (r5_, iE 0 16 (fun _ => 0)), (r6_, iE 0 16 (fun _ => 0)), (r7_, iE 0 16 (fun _ => 0)), (r8_, iE 0 16 (fun _ => 0)), (r9_, iE 1 4 (fun _ => 0)), (r10_, iE 0 4 (fun _ => 0)), (r13_, iE 0 4 (fun _ => 0)), (r14_, iE 0 4 (fun _ => 0)), (r15_, iE 0 4 (fun _ => 0)), (r16_, iE 0 161 (fun _ => 0)), (r17_, iE 0 256 (fun _ => 0)), (r18_, iE 0 256 (fun _ => 0)), (r19_, iE 0 256 (fun _ => 0)), (r20_, iE 0 256 (fun _ => 0)), (r21_, iE 0 2816 (fun _ => 0)), (r22_, iE 0 256 (fun _ => 0)), (r23_, iE 0 258 (fun _ => 0))] [some (.ref a)] [.ref r23_, .ref a] 169
  refine V_putF (C0 := RX11) (T := TX11) (N := 30) (ci := 10) (fs := [.int (zI 4), .int (zI 4), .int (zI 0), .ref r3_, .ref r4_, .ref r5_, .ref r6_, .ref r7_, .ref r8_, .ref r9_, .ref r10_, .int (zI 1), .int (zI 0), .ref r13_, .ref r14_, .ref r15_, .ref r16_, .ref r17_, .ref r18_, .ref r19_, .ref r20_, .ref r21_, .ref r22_, .null, .null, .null, .int (zI 0), .int (zI 0), .int (zI 0), .int (zI 0)]) hI 0 23 iwX11 (by decide) w1093 rfl tyX11 tyX11_ok nmX11 rfl rfl rfl (Nat.le_of_ble_eq_true rfl) rfl rfl dX11_init_169 ?_
  show V K sX11_initA 19 4607 [(a, .inr (10, [.int (zI 4), .int (zI 4), .int (zI 0), .ref r3_, .ref r4_, .ref r5_, .ref r6_, .ref r7_, .ref r8_, .ref r9_, .ref r10_, .int (zI 1), .int (zI 0), .ref r13_, .ref r14_, .ref r15_, .ref r16_, .ref r17_, .ref r18_, .ref r19_, .ref r20_, .ref r21_, .ref r22_, .ref r23_, .null, .null, .int (zI 0), .int (zI 0), .int (zI 0), .int (zI 0)])), (r3_, iE 0 4 (fun _ => 0)), (r4_, iE 0 4 (fun _ => 0)), (r5_, iE 0 16 (fun _ => 0)), (r6_, iE 0 16 (fun _ => 0)), (r7_, iE 0 16 (fun _ => 0)), (r8_, iE 0 16 (fun _ => 0)), (r9_, iE 1 4 (fun _ => 0)), (r10_, iE 0 4 (fun _ => 0)), (r13_, iE 0 4 (fun _ => 0)), (r14_, iE 0 4 (fun _ => 0)), (r15_, iE 0 4 (fun _ => 0)), (r16_, iE 0 161 (fun _ => 0)), (r17_, iE 0 256 (fun _ => 0)), (r18_, iE 0 256 (fun _ => 0)), (r19_, iE 0 256 (fun _ => 0)), (r20_, iE 0 256 (fun _ => 0)), (r21_, iE 0 2816 (fun _ => 0)), (r22_, iE 0 256 (fun _ => 0)), (r23_, iE 0 258 (fun _ => 0))] [some (.ref a)] [] 172
  refine V_aload_n dX11_init_172 rfl ?_
  refine V_sipush dX11_init_173 (by decide) ?_
  refine V_newa_z (N := 225) w167 rfl (by decide) ⟨Nat.le_of_ble_eq_true rfl, Nat.le_of_ble_eq_true rfl⟩ dX11_init_176 (fun r24_ => ?_)
  show V K sX11_initA 20 4832 [(a, .inr (10, [.int (zI 4), .int (zI 4), .int (zI 0), .ref r3_, .ref r4_, .ref r5_, .ref r6_, .ref r7_, .ref r8_, .ref r9_, .ref r10_, .int (zI 1), .int (zI 0), .ref r13_, .ref r14_, .ref r15_, .ref r16_, .ref r17_, .ref r18_, .ref r19_, .ref r20_, .ref r21_, .ref r22_, .ref r23_, .null, .null, .int (zI 0), .int (zI 0), .int (zI 0), .int (zI 0)])), (r3_, iE 0 4 (fun _ => 0)), (r4_, iE 0 4 (fun _ => 0)), (r5_, iE 0 16 (fun _ => 0)), (r6_, iE 0 16 (fun _ => 0)), (r7_, iE 0 16 (fun _ => 0)), (r8_, iE 0 16 (fun _ => 0)), (r9_, iE 1 4 (fun _ => 0)), (r10_, iE 0 4 (fun _ => 0)), (r13_, iE 0 4 (fun _ => 0)), (r14_, iE 0 4 (fun _ => 0)), (r15_, iE 0 4 (fun _ => 0)), (r16_, iE 0 161 (fun _ => 0)), (r17_, iE 0 256 (fun _ => 0)), (r18_, iE 0 256 (fun _ => 0)), (r19_, iE 0 256 (fun _ => 0)), (r20_, iE 0 256 (fun _ => 0)), (r21_, iE 0 2816 (fun _ => 0)), (r22_, iE 0 256 (fun _ => 0)), (r23_, iE 0 258 (fun _ => 0)), (r24_, iE 1 225 (fun _ => 0))] [some (.ref a)] [.ref r24_, .ref a] 178
  refine V_putF (C0 := RX11) (T := TX11) (N := 30) (ci := 10) (fs := [.int (zI 4), .int (zI 4), .int (zI 0), .ref r3_, .ref r4_, .ref r5_, .ref r6_, .ref r7_, .ref r8_, .ref r9_, .ref r10_, .int (zI 1), .int (zI 0), .ref r13_, .ref r14_, .ref r15_, .ref r16_, .ref r17_, .ref r18_, .ref r19_, .ref r20_, .ref r21_, .ref r22_, .ref r23_, .null, .null, .int (zI 0), .int (zI 0), .int (zI 0), .int (zI 0)]) hI 0 24 iwX11 (by decide) w1094 rfl tyX11 tyX11_ok nmX11 rfl rfl rfl (Nat.le_of_ble_eq_true rfl) rfl rfl dX11_init_178 ?_
  show V K sX11_initA 20 4832 [(a, .inr (10, [.int (zI 4), .int (zI 4), .int (zI 0), .ref r3_, .ref r4_, .ref r5_, .ref r6_, .ref r7_, .ref r8_, .ref r9_, .ref r10_, .int (zI 1), .int (zI 0), .ref r13_, .ref r14_, .ref r15_, .ref r16_, .ref r17_, .ref r18_, .ref r19_, .ref r20_, .ref r21_, .ref r22_, .ref r23_, .ref r24_, .null, .int (zI 0), .int (zI 0), .int (zI 0), .int (zI 0)])), (r3_, iE 0 4 (fun _ => 0)), (r4_, iE 0 4 (fun _ => 0)), (r5_, iE 0 16 (fun _ => 0)), (r6_, iE 0 16 (fun _ => 0)), (r7_, iE 0 16 (fun _ => 0)), (r8_, iE 0 16 (fun _ => 0)), (r9_, iE 1 4 (fun _ => 0)), (r10_, iE 0 4 (fun _ => 0)), (r13_, iE 0 4 (fun _ => 0)), (r14_, iE 0 4 (fun _ => 0)), (r15_, iE 0 4 (fun _ => 0)), (r16_, iE 0 161 (fun _ => 0)), (r17_, iE 0 256 (fun _ => 0)), (r18_, iE 0 256 (fun _ => 0)), (r19_, iE 0 256 (fun _ => 0)), (r20_, iE 0 256 (fun _ => 0)), (r21_, iE 0 2816 (fun _ => 0)), (r22_, iE 0 256 (fun _ => 0)), (r23_, iE 0 258 (fun _ => 0)), (r24_, iE 1 225 (fun _ => 0))] [some (.ref a)] [] 181
  refine V_aload_n dX11_init_181 rfl ?_
  refine V_bipush dX11_init_182 (by decide) ?_
  refine V_newa_z (N := 64) w167 rfl (by decide) ⟨Nat.le_of_ble_eq_true rfl, Nat.le_of_ble_eq_true rfl⟩ dX11_init_184 (fun r25_ => ?_)
  show V K sX11_initA 21 4896 [(a, .inr (10, [.int (zI 4), .int (zI 4), .int (zI 0), .ref r3_, .ref r4_, .ref r5_, .ref r6_, .ref r7_, .ref r8_, .ref r9_, .ref r10_, .int (zI 1), .int (zI 0), .ref r13_, .ref r14_, .ref r15_, .ref r16_, .ref r17_, .ref r18_, .ref r19_, .ref r20_, .ref r21_, .ref r22_, .ref r23_, .ref r24_, .null, .int (zI 0), .int (zI 0), .int (zI 0), .int (zI 0)])), (r3_, iE 0 4 (fun _ => 0)), (r4_, iE 0 4 (fun _ => 0)), (r5_, iE 0 16 (fun _ => 0)), (r6_, iE 0 16 (fun _ => 0)), (r7_, iE 0 16 (fun _ => 0)), (r8_, iE 0 16 (fun _ => 0)), (r9_, iE 1 4 (fun _ => 0)), (r10_, iE 0 4 (fun _ => 0)), (r13_, iE 0 4 (fun _ => 0)), (r14_, iE 0 4 (fun _ => 0)), (r15_, iE 0 4 (fun _ => 0)), (r16_, iE 0 161 (fun _ => 0)), (r17_, iE 0 256 (fun _ => 0)), (r18_, iE 0 256 (fun _ => 0)), (r19_, iE 0 256 (fun _ => 0)), (r20_, iE 0 256 (fun _ => 0)), (r21_, iE 0 2816 (fun _ => 0)), (r22_, iE 0 256 (fun _ => 0)), (r23_, iE 0 258 (fun _ => 0)), (r24_, iE 1 225 (fun _ => 0)), (r25_, iE 1 64 (fun _ => 0))] [some (.ref a)] [.ref r25_, .ref a] 186
  refine V_putF (C0 := RX11) (T := TX11) (N := 30) (ci := 10) (fs := [.int (zI 4), .int (zI 4), .int (zI 0), .ref r3_, .ref r4_, .ref r5_, .ref r6_, .ref r7_, .ref r8_, .ref r9_, .ref r10_, .int (zI 1), .int (zI 0), .ref r13_, .ref r14_, .ref r15_, .ref r16_, .ref r17_, .ref r18_, .ref r19_, .ref r20_, .ref r21_, .ref r22_, .ref r23_, .ref r24_, .null, .int (zI 0), .int (zI 0), .int (zI 0), .int (zI 0)]) hI 0 25 iwX11 (by decide) w1095 rfl tyX11 tyX11_ok nmX11 rfl rfl rfl (Nat.le_of_ble_eq_true rfl) rfl rfl dX11_init_186 ?_
  show V K sX11_initA 21 4896 [(a, .inr (10, [.int (zI 4), .int (zI 4), .int (zI 0), .ref r3_, .ref r4_, .ref r5_, .ref r6_, .ref r7_, .ref r8_, .ref r9_, .ref r10_, .int (zI 1), .int (zI 0), .ref r13_, .ref r14_, .ref r15_, .ref r16_, .ref r17_, .ref r18_, .ref r19_, .ref r20_, .ref r21_, .ref r22_, .ref r23_, .ref r24_, .ref r25_, .int (zI 0), .int (zI 0), .int (zI 0), .int (zI 0)])), (r3_, iE 0 4 (fun _ => 0)), (r4_, iE 0 4 (fun _ => 0)), (r5_, iE 0 16 (fun _ => 0)), (r6_, iE 0 16 (fun _ => 0)), (r7_, iE 0 16 (fun _ => 0)), (r8_, iE 0 16 (fun _ => 0)), (r9_, iE 1 4 (fun _ => 0)), (r10_, iE 0 4 (fun _ => 0)), (r13_, iE 0 4 (fun _ => 0)), (r14_, iE 0 4 (fun _ => 0)), (r15_, iE 0 4 (fun _ => 0)), (r16_, iE 0 161 (fun _ => 0)), (r17_, iE 0 256 (fun _ => 0)), (r18_, iE 0 256 (fun _ => 0)), (r19_, iE 0 256 (fun _ => 0)), (r20_, iE 0 256 (fun _ => 0)), (r21_, iE 0 2816 (fun _ => 0)), (r22_, iE 0 256 (fun _ => 0)), (r23_, iE 0 258 (fun _ => 0)), (r24_, iE 1 225 (fun _ => 0)), (r25_, iE 1 64 (fun _ => 0))] [some (.ref a)] [] 189
  refine V_vret hR rfl (Nat.le_of_ble_eq_true rfl) (Nat.le_of_ble_eq_true rfl) dX11_init_189 ?_
  exact ⟨r3_, r4_, r5_, r6_, r7_, r8_, r9_, r10_, r13_, r14_, r15_, r16_, r17_, r18_, r19_, r20_, r21_, r22_, r23_, r24_, r25_, rfl, rfl⟩

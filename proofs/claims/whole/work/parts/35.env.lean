/-! the class's environment: words of nest mates and casts, statics, enum constants, string constants -/
def nwOK : Cond → Bool
  | .fieldLinkNest _ _ _ _ _ _ => true
  | .methodLinkNest _ _ _ _ => true
  | .castable _ _ => true
  | .declares _ => true
  | _ => false
def WN : List Cond := tables_1.filter nwOK
theorem wn_of {w : Cond} (h : w ∈ tables_1) (g : nwOK w = true) : w ∈ WN := List.mem_filter.mpr ⟨h, g⟩
theorem wn_warm {w : Cond} (h : w ∈ WN) {s U : State} (hW : s.WarmedH U.vm) (hZ : va_Nw w s) : va_Nw w U := by
  have hg := (List.mem_filter.mp h).2
  cases w <;> first | exact va_Nw.warmF hW hZ | exact va_Nw.warmM hW hZ | exact va_Nw.warmC hW hZ | exact va_Nw.warmD hW hZ | cases hg
theorem va_AOA.moved {ty : FieldType} {u U : State} (hvm : u.vm.Alike U.vm) (h : va_AOA ty u) : va_AOA ty U := by
  have h1 : (Cond.arrayOver (.array ty)).before #[] (u.setVm U.vm) = true := by rw [Cond.arrayOver_setVmC hvm]; exact h
  exact h1
theorem wn39 : Cond.methodLinkNest RX10 11 yX5_init RX10 ∈ WN := wn_of (wm1 (List.mem_of_getElem? (i := 39) rfl)) rfl
theorem wn70 : Cond.fieldLinkNest RX10 67 RX5 "statements" "Ljava/util/ArrayList;" RX10 ∈ WN := wn_of (wm1 (List.mem_of_getElem? (i := 70) rfl)) rfl
theorem wn71 : Cond.fieldLinkNest RX9 48 RX5 "statements" "Ljava/util/ArrayList;" RX10 ∈ WN := wn_of (wm1 (List.mem_of_getElem? (i := 71) rfl)) rfl
theorem wn72 : Cond.fieldLinkNest RX4 38 RX5 "statements" "Ljava/util/ArrayList;" RX10 ∈ WN := wn_of (wm1 (List.mem_of_getElem? (i := 72) rfl)) rfl
theorem wn74 : Cond.fieldLinkNest RX2 35 RX5 "rows" "I" RX10 ∈ WN := wn_of (wm1 (List.mem_of_getElem? (i := 74) rfl)) rfl
theorem wn75 : Cond.fieldLinkNest RX9 81 RX5 "rows" "I" RX10 ∈ WN := wn_of (wm1 (List.mem_of_getElem? (i := 75) rfl)) rfl
theorem wn77 : Cond.fieldLinkNest RX2 38 RX5 "columns" "I" RX10 ∈ WN := wn_of (wm1 (List.mem_of_getElem? (i := 77) rfl)) rfl
theorem wn78 : Cond.fieldLinkNest RX9 84 RX5 "columns" "I" RX10 ∈ WN := wn_of (wm1 (List.mem_of_getElem? (i := 78) rfl)) rfl
theorem wn79 : Cond.fieldLinkNest RX4 94 RX5 "columns" "I" RX10 ∈ WN := wn_of (wm1 (List.mem_of_getElem? (i := 79) rfl)) rfl
theorem wn80 : Cond.fieldLinkNest RX10 219 RX5 "columns" "I" RX10 ∈ WN := wn_of (wm1 (List.mem_of_getElem? (i := 80) rfl)) rfl
theorem wn82 : Cond.fieldLinkNest RX10 121 RX5 "points" "I" RX10 ∈ WN := wn_of (wm1 (List.mem_of_getElem? (i := 82) rfl)) rfl
theorem wn94 : Cond.methodLinkNest RX10 18 yX9_init RX10 ∈ WN := wn_of (wm1 (List.mem_of_getElem? (i := 94) rfl)) rfl
theorem wn99 : Cond.fieldLinkNest RX4 26 RX9 "number" "[I" RX10 ∈ WN := wn_of (wm1 (List.mem_of_getElem? (i := 99) rfl)) rfl
theorem wn100 : Cond.fieldLinkNest RX10 165 RX9 "number" "[I" RX10 ∈ WN := wn_of (wm1 (List.mem_of_getElem? (i := 100) rfl)) rfl
theorem wn102 : Cond.fieldLinkNest RX4 32 RX9 "row" "[I" RX10 ∈ WN := wn_of (wm1 (List.mem_of_getElem? (i := 102) rfl)) rfl
theorem wn103 : Cond.fieldLinkNest RX2 49 RX9 "row" "[I" RX10 ∈ WN := wn_of (wm1 (List.mem_of_getElem? (i := 103) rfl)) rfl
theorem wn105 : Cond.fieldLinkNest RX4 35 RX9 "column" "[I" RX10 ∈ WN := wn_of (wm1 (List.mem_of_getElem? (i := 105) rfl)) rfl
theorem wn106 : Cond.fieldLinkNest RX2 52 RX9 "column" "[I" RX10 ∈ WN := wn_of (wm1 (List.mem_of_getElem? (i := 106) rfl)) rfl
theorem wn108 : Cond.fieldLinkNest RX10 158 RX9 "birth" "[I" RX10 ∈ WN := wn_of (wm1 (List.mem_of_getElem? (i := 108) rfl)) rfl
theorem wn110 : Cond.fieldLinkNest RX10 175 RX9 "end" "[I" RX10 ∈ WN := wn_of (wm1 (List.mem_of_getElem? (i := 110) rfl)) rfl
theorem wn112 : Cond.fieldLinkNest RX10 168 RX9 "cellAt" "[I" RX10 ∈ WN := wn_of (wm1 (List.mem_of_getElem? (i := 112) rfl)) rfl
theorem wn141 : Cond.methodLinkNest RX10 25 yX2_init RX10 ∈ WN := wn_of (wm1 (List.mem_of_getElem? (i := 141) rfl)) rfl
theorem wn170 : Cond.methodLinkNest RX10 32 yX8_init RX10 ∈ WN := wn_of (wm1 (List.mem_of_getElem? (i := 170) rfl)) rfl
theorem wn178 : Cond.fieldLinkNest RX10 248 RX8 "modulus" "I" RX10 ∈ WN := wn_of (wm1 (List.mem_of_getElem? (i := 178) rfl)) rfl
theorem wn180 : Cond.fieldLinkNest RX10 239 RX8 "rowModulus" "I" RX10 ∈ WN := wn_of (wm1 (List.mem_of_getElem? (i := 180) rfl)) rfl
theorem wn182 : Cond.fieldLinkNest RX10 242 RX8 "columnModulus" "I" RX10 ∈ WN := wn_of (wm1 (List.mem_of_getElem? (i := 182) rfl)) rfl
theorem wn184 : Cond.fieldLinkNest RX10 251 RX8 "slant" "I" RX10 ∈ WN := wn_of (wm1 (List.mem_of_getElem? (i := 184) rfl)) rfl
theorem wn213 : Cond.methodLinkNest RX10 51 yX1_init RX10 ∈ WN := wn_of (wm1 (List.mem_of_getElem? (i := 213) rfl)) rfl
theorem wn218 : Cond.fieldLinkNest RX10 308 RX1 "found" "Z" RX10 ∈ WN := wn_of (wm1 (List.mem_of_getElem? (i := 218) rfl)) rfl
theorem wn220 : Cond.fieldLinkNest RX10 271 RX1 "rowWeight" "I" RX10 ∈ WN := wn_of (wm1 (List.mem_of_getElem? (i := 220) rfl)) rfl
theorem wn222 : Cond.fieldLinkNest RX10 272 RX1 "columnWeight" "I" RX10 ∈ WN := wn_of (wm1 (List.mem_of_getElem? (i := 222) rfl)) rfl
theorem wn224 : Cond.fieldLinkNest RX10 273 RX1 "room" "I" RX10 ∈ WN := wn_of (wm1 (List.mem_of_getElem? (i := 224) rfl)) rfl
theorem wn427 : Cond.methodLinkNest RX8 50 yX10_restOf RX10 ∈ WN := wn_of (wm2 (List.mem_of_getElem? (i := 187) rfl)) rfl
theorem wn518 : Cond.castable "java/lang/IllegalArgumentException" "java/lang/IllegalArgumentException" ∈ WN := wn_of (wm3 (List.mem_of_getElem? (i := 38) rfl)) rfl
theorem wn586 : Cond.castable "java/lang/IllegalStateException" "java/lang/IllegalStateException" ∈ WN := wn_of (wm3 (List.mem_of_getElem? (i := 106) rfl)) rfl
theorem wn608 : Cond.methodLinkNest RX7 18 yX8_init RX10 ∈ WN := wn_of (wm3 (List.mem_of_getElem? (i := 128) rfl)) rfl
theorem wn610 : Cond.fieldLinkNest RX4 52 RX7 "addend" "I" RX10 ∈ WN := wn_of (wm3 (List.mem_of_getElem? (i := 130) rfl)) rfl
theorem wn612 : Cond.fieldLinkNest RX10 100 RX7 "reads" "Ljava/util/ArrayList;" RX10 ∈ WN := wn_of (wm3 (List.mem_of_getElem? (i := 132) rfl)) rfl
theorem wn613 : Cond.fieldLinkNest RX4 56 RX7 "reads" "Ljava/util/ArrayList;" RX10 ∈ WN := wn_of (wm3 (List.mem_of_getElem? (i := 133) rfl)) rfl
theorem wn614 : Cond.fieldLinkNest RX9 97 RX7 "reads" "Ljava/util/ArrayList;" RX10 ∈ WN := wn_of (wm3 (List.mem_of_getElem? (i := 134) rfl)) rfl
theorem wn615 : Cond.fieldLinkNest RX5 42 RX7 "reads" "Ljava/util/ArrayList;" RX10 ∈ WN := wn_of (wm3 (List.mem_of_getElem? (i := 135) rfl)) rfl
theorem wn617 : Cond.fieldLinkNest RX4 97 RX7 "window" "LCellWindows$Window;" RX10 ∈ WN := wn_of (wm3 (List.mem_of_getElem? (i := 137) rfl)) rfl
theorem wn618 : Cond.fieldLinkNest RX10 188 RX7 "window" "LCellWindows$Window;" RX10 ∈ WN := wn_of (wm3 (List.mem_of_getElem? (i := 138) rfl)) rfl
theorem wn620 : Cond.fieldLinkNest RX9 74 RX7 "offset" "I" RX10 ∈ WN := wn_of (wm3 (List.mem_of_getElem? (i := 140) rfl)) rfl
theorem wn621 : Cond.fieldLinkNest RX10 131 RX7 "offset" "I" RX10 ∈ WN := wn_of (wm3 (List.mem_of_getElem? (i := 141) rfl)) rfl
theorem wn622 : Cond.fieldLinkNest RX5 62 RX7 "offset" "I" RX10 ∈ WN := wn_of (wm3 (List.mem_of_getElem? (i := 142) rfl)) rfl
theorem wn624 : Cond.fieldLinkNest RX10 113 RX7 "lasting" "Z" RX10 ∈ WN := wn_of (wm3 (List.mem_of_getElem? (i := 144) rfl)) rfl
theorem wn625 : Cond.fieldLinkNest RX9 93 RX7 "lasting" "Z" RX10 ∈ WN := wn_of (wm3 (List.mem_of_getElem? (i := 145) rfl)) rfl
theorem wn711 : Cond.castable "java/lang/IndexOutOfBoundsException" "java/lang/IndexOutOfBoundsException" ∈ WN := wn_of (wm3 (List.mem_of_getElem? (i := 231) rfl)) rfl
theorem wn733 : Cond.fieldLinkNest RX4 68 RX6 "source" "I" RX10 ∈ WN := wn_of (wm4 (List.mem_of_getElem? (i := 13) rfl)) rfl
theorem wn734 : Cond.fieldLinkNest RX9 116 RX6 "source" "I" RX10 ∈ WN := wn_of (wm4 (List.mem_of_getElem? (i := 14) rfl)) rfl
theorem wn735 : Cond.fieldLinkNest RX5 65 RX6 "source" "I" RX10 ∈ WN := wn_of (wm4 (List.mem_of_getElem? (i := 15) rfl)) rfl
theorem wn737 : Cond.fieldLinkNest RX4 65 RX6 "factor" "I" RX10 ∈ WN := wn_of (wm4 (List.mem_of_getElem? (i := 17) rfl)) rfl
theorem wn739 : Cond.fieldLinkNest RX4 71 RX6 "rowsBack" "I" RX10 ∈ WN := wn_of (wm4 (List.mem_of_getElem? (i := 19) rfl)) rfl
theorem wn740 : Cond.fieldLinkNest RX9 106 RX6 "rowsBack" "I" RX10 ∈ WN := wn_of (wm4 (List.mem_of_getElem? (i := 20) rfl)) rfl
theorem wn741 : Cond.fieldLinkNest RX5 51 RX6 "rowsBack" "I" RX10 ∈ WN := wn_of (wm4 (List.mem_of_getElem? (i := 21) rfl)) rfl
theorem wn743 : Cond.fieldLinkNest RX4 74 RX6 "columnsBack" "I" RX10 ∈ WN := wn_of (wm4 (List.mem_of_getElem? (i := 23) rfl)) rfl
theorem wn744 : Cond.fieldLinkNest RX9 109 RX6 "columnsBack" "I" RX10 ∈ WN := wn_of (wm4 (List.mem_of_getElem? (i := 24) rfl)) rfl
theorem wn745 : Cond.fieldLinkNest RX5 54 RX6 "columnsBack" "I" RX10 ∈ WN := wn_of (wm4 (List.mem_of_getElem? (i := 25) rfl)) rfl
theorem wn1496 : Cond.castable "CellWindows" "java/lang/Object" ∈ WN := wn_of (wm7 (List.mem_of_getElem? (i := 56) rfl)) rfl
theorem wn1497 : Cond.castable "CellWindows$Program" "java/lang/Object" ∈ WN := wn_of (wm7 (List.mem_of_getElem? (i := 57) rfl)) rfl
theorem wn1498 : Cond.castable "java/util/ArrayList" "java/lang/Object" ∈ WN := wn_of (wm7 (List.mem_of_getElem? (i := 58) rfl)) rfl
theorem wn1499 : Cond.castable "CellWindows$Work" "java/lang/Object" ∈ WN := wn_of (wm7 (List.mem_of_getElem? (i := 59) rfl)) rfl
theorem wn1500 : Cond.castable "CellWindows$Differences" "java/lang/Object" ∈ WN := wn_of (wm7 (List.mem_of_getElem? (i := 60) rfl)) rfl
theorem wn1501 : Cond.castable "CellWindows$Window" "java/lang/Object" ∈ WN := wn_of (wm7 (List.mem_of_getElem? (i := 61) rfl)) rfl
theorem wn1502 : Cond.castable "CellWindows$Kind" "java/lang/Object" ∈ WN := wn_of (wm7 (List.mem_of_getElem? (i := 62) rfl)) rfl
theorem wn1503 : Cond.castable "CellWindows$Machine" "java/lang/Object" ∈ WN := wn_of (wm7 (List.mem_of_getElem? (i := 63) rfl)) rfl
theorem wn1504 : Cond.castable "CellWindows$Best" "java/lang/Object" ∈ WN := wn_of (wm7 (List.mem_of_getElem? (i := 64) rfl)) rfl
theorem wn1505 : Cond.castable "CellWindowsModel" "java/lang/Object" ∈ WN := wn_of (wm7 (List.mem_of_getElem? (i := 65) rfl)) rfl
theorem wn1506 : Cond.castable "java/lang/IllegalArgumentException" "java/lang/Object" ∈ WN := wn_of (wm7 (List.mem_of_getElem? (i := 66) rfl)) rfl
theorem wn1507 : Cond.castable "java/lang/IllegalStateException" "java/lang/Object" ∈ WN := wn_of (wm7 (List.mem_of_getElem? (i := 67) rfl)) rfl
theorem wn1508 : Cond.castable "CellWindows$Statement" "java/lang/Object" ∈ WN := wn_of (wm7 (List.mem_of_getElem? (i := 68) rfl)) rfl
theorem wn1509 : Cond.castable "java/lang/IndexOutOfBoundsException" "java/lang/Object" ∈ WN := wn_of (wm7 (List.mem_of_getElem? (i := 69) rfl)) rfl
theorem wn1510 : Cond.castable "CellWindows$Read" "java/lang/Object" ∈ WN := wn_of (wm7 (List.mem_of_getElem? (i := 70) rfl)) rfl
theorem wn1511 : Cond.castable "java/lang/Throwable" "java/lang/Object" ∈ WN := wn_of (wm7 (List.mem_of_getElem? (i := 71) rfl)) rfl
theorem wn1512 : Cond.castable "java/lang/String" "java/lang/Object" ∈ WN := wn_of (wm7 (List.mem_of_getElem? (i := 72) rfl)) rfl
theorem wn1516 : Cond.castable "[I" "java/lang/Object" ∈ WN := wn_of (wm7 (List.mem_of_getElem? (i := 76) rfl)) rfl
theorem wn1517 : Cond.castable "[Z" "java/lang/Object" ∈ WN := wn_of (wm7 (List.mem_of_getElem? (i := 77) rfl)) rfl
theorem wn1518 : Cond.castable "[[I" "java/lang/Object" ∈ WN := wn_of (wm7 (List.mem_of_getElem? (i := 78) rfl)) rfl
theorem wn1519 : Cond.castable "[B" "java/lang/Object" ∈ WN := wn_of (wm7 (List.mem_of_getElem? (i := 79) rfl)) rfl
theorem wn1520 : Cond.castable "[Ljava/lang/Object;" "java/lang/Object" ∈ WN := wn_of (wm7 (List.mem_of_getElem? (i := 80) rfl)) rfl
theorem wn1521 : Cond.castable "[J" "java/lang/Object" ∈ WN := wn_of (wm7 (List.mem_of_getElem? (i := 81) rfl)) rfl
def kNm : Nat → String
  | 0 => "WHOLE"
  | 1 => "REST"
  | 2 => "TWO_RESTS"
  | _ => "SLANT"
def sIx : Nat → Nat
  | 0 => 277
  | 1 => 79
  | 2 => 280
  | 3 => 103
  | 4 => 140
  | 5 => 285
  | 6 => 290
  | _ => 317
def sTx : Nat → String
  | 0 => "out of range"
  | 1 => "there are 4 statements"
  | 2 => "no such statement"
  | 3 => "the statement has 4 reads"
  | 4 => "no such read"
  | 5 => "no such point"
  | 6 => "no such step"
  | _ => "no schedule with weights 0 to 3 is allowed"
/-- q: 0..3 the constants of Kind, 4 the switch's array, 5 the empty elements, from 10 the texts -/
def EN (q : Nat → Nat) : EV := fun A U H =>
  (∀ w ∈ WN, va_Nw w U) ∧
  (∀ i, i < 4 → va_Z "CellWindows$Kind" (kNm i) "LCellWindows$Kind;" (.ref (q i)) A U H ∧ va_O "CellWindows$Kind" (q i) A U H) ∧
  va_Ef 4 "java/lang/Enum" "ordinal" "I" (fun i => .int (nI i)) q A U H ∧
  (∀ i j, i < 4 → j < 4 → q i = q j → i = j) ∧
  (va_Z "CellWindows$1" "$SwitchMap$CellWindows$Kind" "[I" (.ref (q 4)) A U H ∧ va_T .int (q 4) 4 (fun j => .int (nI j)) A U H) ∧
  (va_Z "java/util/ArrayList" "DEFAULTCAPACITY_EMPTY_ELEMENTDATA" "[Ljava/lang/Object;" (.ref (q 5)) A U H ∧ va_T (.object "java/lang/Object") (q 5) 0 (fun _ => .null) A U H) ∧
  (vx_Zq Bundle.tN "UNASSIGNED_STACK" Bundle.steD A U H ∧ vx_Zq Bundle.tN "SUPPRESSED_SENTINEL" Bundle.listD A U H) ∧
  (∀ i, i < 8 → vk_R "CellWindows" (sIx i) (sTx i) (q (10 + i)) U) ∧
  va_AO "java/lang/Object" U ∧ va_AOA .int U
theorem EN.stb (q : Nat → Nat) : Stb (EN q) := by
  refine ⟨?_, ?_, ?_⟩
  · rintro A B U H hAB ⟨h1, h2, h3, h4, ⟨h5, h6⟩, ⟨h7, h8⟩, ⟨h9, h10⟩, h11, h12, h13⟩
    exact ⟨h1, fun i hi => ⟨(h2 i hi).1.narrow hAB, (h2 i hi).2.narrow hAB⟩, h3.narrow hAB, h4, ⟨h5.narrow hAB, h6.narrow hAB⟩, ⟨h7.narrow hAB, h8.narrow hAB⟩, ⟨h9.narrow hAB, h10.narrow hAB⟩, h11, h12, h13⟩
  · rintro A u U H hW ⟨h1, h2, h3, h4, ⟨h5, h6⟩, ⟨h7, h8⟩, ⟨h9, h10⟩, h11, h12, h13⟩
    exact ⟨fun w hw => wn_warm hw hW (h1 w hw), fun i hi => ⟨va_Z.moved hW.alike (h2 i hi).1, va_O.moved hW.alike (h2 i hi).2⟩, va_Ef.moved hW.alike h3, h4, ⟨va_Z.moved hW.alike h5, va_T.moved hW.alike h6⟩, ⟨va_Z.moved hW.alike h7, va_T.moved hW.alike h8⟩, ⟨vx_Zq.moved hW.alike h9, vx_Zq.moved hW.alike h10⟩, fun i hi => vk_R.warm hW (h11 i hi), va_AO.moved hW.alike h12, va_AOA.moved hW.alike h13⟩
  · rintro A U H H1 hk ⟨h1, h2, h3, h4, ⟨h5, h6⟩, ⟨h7, h8⟩, ⟨h9, h10⟩, h11, h12, h13⟩
    exact ⟨h1, fun i hi => ⟨(h2 i hi).1.kept hk, (h2 i hi).2.kept hk⟩, h3.kept hk, h4, ⟨h5.kept hk, h6.kept hk⟩, ⟨h7.kept hk, h8.kept hk⟩, ⟨h9.kept hk, h10.kept hk⟩, h11, h12, h13⟩

/-! the class's environment: words of nest mates and casts, statics, enum constants, string constants -/
def nwOK : Cond → Bool
  | .fieldLinkNest _ _ _ _ _ _ => true
  | .methodLinkNest _ _ _ _ => true
  | .castable _ _ => true
  | .declares _ => true
  | _ => false
def WN : List Cond := tables_1.filter nwOK
theorem wn_of {w : Cond} (h : w ∈ tables_1) (g : nwOK w = true) : w ∈ WN := List.mem_filter.mpr ⟨h, g⟩
theorem wn_warm {w : Cond} (h : w ∈ WN) {s U : State} (hW : s.WarmedH U.vm) (hZ : va_Nw w s) : va_Nw w U := by
  have hg := (List.mem_filter.mp h).2
  cases w <;> first | exact va_Nw.warmF hW hZ | exact va_Nw.warmM hW hZ | exact va_Nw.warmC hW hZ | exact va_Nw.warmD hW hZ | cases hg
theorem va_AOA.moved {ty : FieldType} {u U : State} (hvm : u.vm.Alike U.vm) (h : va_AOA ty u) : va_AOA ty U := by
  have h1 : (Cond.arrayOver (.array ty)).before #[] (u.setVm U.vm) = true := by rw [Cond.arrayOver_setVmC hvm]; exact h
  exact h1
theorem wn38 : Cond.methodLinkNest RX10 11 yX5_init RX10 ∈ WN := wn_of (wm1 (List.mem_of_getElem? (i := 38) rfl)) rfl
theorem wn69 : Cond.fieldLinkNest RX10 67 RX5 "statements" "Ljava/util/ArrayList;" RX10 ∈ WN := wn_of (wm1 (List.mem_of_getElem? (i := 69) rfl)) rfl
theorem wn70 : Cond.fieldLinkNest RX9 48 RX5 "statements" "Ljava/util/ArrayList;" RX10 ∈ WN := wn_of (wm1 (List.mem_of_getElem? (i := 70) rfl)) rfl
theorem wn71 : Cond.fieldLinkNest RX4 38 RX5 "statements" "Ljava/util/ArrayList;" RX10 ∈ WN := wn_of (wm1 (List.mem_of_getElem? (i := 71) rfl)) rfl
theorem wn73 : Cond.fieldLinkNest RX2 35 RX5 "rows" "I" RX10 ∈ WN := wn_of (wm1 (List.mem_of_getElem? (i := 73) rfl)) rfl
theorem wn74 : Cond.fieldLinkNest RX9 81 RX5 "rows" "I" RX10 ∈ WN := wn_of (wm1 (List.mem_of_getElem? (i := 74) rfl)) rfl
theorem wn76 : Cond.fieldLinkNest RX2 38 RX5 "columns" "I" RX10 ∈ WN := wn_of (wm1 (List.mem_of_getElem? (i := 76) rfl)) rfl
theorem wn77 : Cond.fieldLinkNest RX9 84 RX5 "columns" "I" RX10 ∈ WN := wn_of (wm1 (List.mem_of_getElem? (i := 77) rfl)) rfl
theorem wn78 : Cond.fieldLinkNest RX4 94 RX5 "columns" "I" RX10 ∈ WN := wn_of (wm1 (List.mem_of_getElem? (i := 78) rfl)) rfl
theorem wn79 : Cond.fieldLinkNest RX10 219 RX5 "columns" "I" RX10 ∈ WN := wn_of (wm1 (List.mem_of_getElem? (i := 79) rfl)) rfl
theorem wn81 : Cond.fieldLinkNest RX10 121 RX5 "points" "I" RX10 ∈ WN := wn_of (wm1 (List.mem_of_getElem? (i := 81) rfl)) rfl
theorem wn93 : Cond.methodLinkNest RX10 18 yX9_init RX10 ∈ WN := wn_of (wm1 (List.mem_of_getElem? (i := 93) rfl)) rfl
theorem wn98 : Cond.fieldLinkNest RX4 26 RX9 "number" "[I" RX10 ∈ WN := wn_of (wm1 (List.mem_of_getElem? (i := 98) rfl)) rfl
theorem wn99 : Cond.fieldLinkNest RX10 165 RX9 "number" "[I" RX10 ∈ WN := wn_of (wm1 (List.mem_of_getElem? (i := 99) rfl)) rfl
theorem wn101 : Cond.fieldLinkNest RX4 32 RX9 "row" "[I" RX10 ∈ WN := wn_of (wm1 (List.mem_of_getElem? (i := 101) rfl)) rfl
theorem wn102 : Cond.fieldLinkNest RX2 49 RX9 "row" "[I" RX10 ∈ WN := wn_of (wm1 (List.mem_of_getElem? (i := 102) rfl)) rfl
theorem wn104 : Cond.fieldLinkNest RX4 35 RX9 "column" "[I" RX10 ∈ WN := wn_of (wm1 (List.mem_of_getElem? (i := 104) rfl)) rfl
theorem wn105 : Cond.fieldLinkNest RX2 52 RX9 "column" "[I" RX10 ∈ WN := wn_of (wm1 (List.mem_of_getElem? (i := 105) rfl)) rfl
theorem wn107 : Cond.fieldLinkNest RX10 158 RX9 "birth" "[I" RX10 ∈ WN := wn_of (wm1 (List.mem_of_getElem? (i := 107) rfl)) rfl
theorem wn109 : Cond.fieldLinkNest RX10 175 RX9 "end" "[I" RX10 ∈ WN := wn_of (wm1 (List.mem_of_getElem? (i := 109) rfl)) rfl
theorem wn111 : Cond.fieldLinkNest RX10 168 RX9 "cellAt" "[I" RX10 ∈ WN := wn_of (wm1 (List.mem_of_getElem? (i := 111) rfl)) rfl
theorem wn140 : Cond.methodLinkNest RX10 25 yX2_init RX10 ∈ WN := wn_of (wm1 (List.mem_of_getElem? (i := 140) rfl)) rfl
theorem wn169 : Cond.methodLinkNest RX10 32 yX8_init RX10 ∈ WN := wn_of (wm1 (List.mem_of_getElem? (i := 169) rfl)) rfl
theorem wn177 : Cond.fieldLinkNest RX10 248 RX8 "modulus" "I" RX10 ∈ WN := wn_of (wm1 (List.mem_of_getElem? (i := 177) rfl)) rfl
theorem wn179 : Cond.fieldLinkNest RX10 239 RX8 "rowModulus" "I" RX10 ∈ WN := wn_of (wm1 (List.mem_of_getElem? (i := 179) rfl)) rfl
theorem wn181 : Cond.fieldLinkNest RX10 242 RX8 "columnModulus" "I" RX10 ∈ WN := wn_of (wm1 (List.mem_of_getElem? (i := 181) rfl)) rfl
theorem wn183 : Cond.fieldLinkNest RX10 251 RX8 "slant" "I" RX10 ∈ WN := wn_of (wm1 (List.mem_of_getElem? (i := 183) rfl)) rfl
theorem wn212 : Cond.methodLinkNest RX10 51 yX1_init RX10 ∈ WN := wn_of (wm1 (List.mem_of_getElem? (i := 212) rfl)) rfl
theorem wn217 : Cond.fieldLinkNest RX10 308 RX1 "found" "Z" RX10 ∈ WN := wn_of (wm1 (List.mem_of_getElem? (i := 217) rfl)) rfl
theorem wn219 : Cond.fieldLinkNest RX10 271 RX1 "rowWeight" "I" RX10 ∈ WN := wn_of (wm1 (List.mem_of_getElem? (i := 219) rfl)) rfl
theorem wn221 : Cond.fieldLinkNest RX10 272 RX1 "columnWeight" "I" RX10 ∈ WN := wn_of (wm1 (List.mem_of_getElem? (i := 221) rfl)) rfl
theorem wn223 : Cond.fieldLinkNest RX10 273 RX1 "room" "I" RX10 ∈ WN := wn_of (wm1 (List.mem_of_getElem? (i := 223) rfl)) rfl
theorem wn426 : Cond.methodLinkNest RX8 50 yX10_restOf RX10 ∈ WN := wn_of (wm2 (List.mem_of_getElem? (i := 186) rfl)) rfl
theorem wn522 : Cond.castable "java/lang/IllegalArgumentException" "java/lang/IllegalArgumentException" ∈ WN := wn_of (wm3 (List.mem_of_getElem? (i := 42) rfl)) rfl
theorem wn590 : Cond.castable "java/lang/IllegalStateException" "java/lang/IllegalStateException" ∈ WN := wn_of (wm3 (List.mem_of_getElem? (i := 110) rfl)) rfl
theorem wn612 : Cond.methodLinkNest RX7 18 yX8_init RX10 ∈ WN := wn_of (wm3 (List.mem_of_getElem? (i := 132) rfl)) rfl
theorem wn614 : Cond.fieldLinkNest RX4 52 RX7 "addend" "I" RX10 ∈ WN := wn_of (wm3 (List.mem_of_getElem? (i := 134) rfl)) rfl
theorem wn616 : Cond.fieldLinkNest RX10 100 RX7 "reads" "Ljava/util/ArrayList;" RX10 ∈ WN := wn_of (wm3 (List.mem_of_getElem? (i := 136) rfl)) rfl
theorem wn617 : Cond.fieldLinkNest RX4 56 RX7 "reads" "Ljava/util/ArrayList;" RX10 ∈ WN := wn_of (wm3 (List.mem_of_getElem? (i := 137) rfl)) rfl
theorem wn618 : Cond.fieldLinkNest RX9 97 RX7 "reads" "Ljava/util/ArrayList;" RX10 ∈ WN := wn_of (wm3 (List.mem_of_getElem? (i := 138) rfl)) rfl
theorem wn619 : Cond.fieldLinkNest RX5 42 RX7 "reads" "Ljava/util/ArrayList;" RX10 ∈ WN := wn_of (wm3 (List.mem_of_getElem? (i := 139) rfl)) rfl
theorem wn621 : Cond.fieldLinkNest RX4 97 RX7 "window" "LCellWindows$Window;" RX10 ∈ WN := wn_of (wm3 (List.mem_of_getElem? (i := 141) rfl)) rfl
theorem wn622 : Cond.fieldLinkNest RX10 188 RX7 "window" "LCellWindows$Window;" RX10 ∈ WN := wn_of (wm3 (List.mem_of_getElem? (i := 142) rfl)) rfl
theorem wn624 : Cond.fieldLinkNest RX9 74 RX7 "offset" "I" RX10 ∈ WN := wn_of (wm3 (List.mem_of_getElem? (i := 144) rfl)) rfl
theorem wn625 : Cond.fieldLinkNest RX10 131 RX7 "offset" "I" RX10 ∈ WN := wn_of (wm3 (List.mem_of_getElem? (i := 145) rfl)) rfl
theorem wn626 : Cond.fieldLinkNest RX5 62 RX7 "offset" "I" RX10 ∈ WN := wn_of (wm3 (List.mem_of_getElem? (i := 146) rfl)) rfl
theorem wn628 : Cond.fieldLinkNest RX10 113 RX7 "lasting" "Z" RX10 ∈ WN := wn_of (wm3 (List.mem_of_getElem? (i := 148) rfl)) rfl
theorem wn629 : Cond.fieldLinkNest RX9 93 RX7 "lasting" "Z" RX10 ∈ WN := wn_of (wm3 (List.mem_of_getElem? (i := 149) rfl)) rfl
theorem wn710 : Cond.castable "java/lang/IndexOutOfBoundsException" "java/lang/IndexOutOfBoundsException" ∈ WN := wn_of (wm3 (List.mem_of_getElem? (i := 230) rfl)) rfl
theorem wn732 : Cond.fieldLinkNest RX4 68 RX6 "source" "I" RX10 ∈ WN := wn_of (wm4 (List.mem_of_getElem? (i := 12) rfl)) rfl
theorem wn733 : Cond.fieldLinkNest RX9 116 RX6 "source" "I" RX10 ∈ WN := wn_of (wm4 (List.mem_of_getElem? (i := 13) rfl)) rfl
theorem wn734 : Cond.fieldLinkNest RX5 65 RX6 "source" "I" RX10 ∈ WN := wn_of (wm4 (List.mem_of_getElem? (i := 14) rfl)) rfl
theorem wn736 : Cond.fieldLinkNest RX4 65 RX6 "factor" "I" RX10 ∈ WN := wn_of (wm4 (List.mem_of_getElem? (i := 16) rfl)) rfl
theorem wn738 : Cond.fieldLinkNest RX4 71 RX6 "rowsBack" "I" RX10 ∈ WN := wn_of (wm4 (List.mem_of_getElem? (i := 18) rfl)) rfl
theorem wn739 : Cond.fieldLinkNest RX9 106 RX6 "rowsBack" "I" RX10 ∈ WN := wn_of (wm4 (List.mem_of_getElem? (i := 19) rfl)) rfl
theorem wn740 : Cond.fieldLinkNest RX5 51 RX6 "rowsBack" "I" RX10 ∈ WN := wn_of (wm4 (List.mem_of_getElem? (i := 20) rfl)) rfl
theorem wn742 : Cond.fieldLinkNest RX4 74 RX6 "columnsBack" "I" RX10 ∈ WN := wn_of (wm4 (List.mem_of_getElem? (i := 22) rfl)) rfl
theorem wn743 : Cond.fieldLinkNest RX9 109 RX6 "columnsBack" "I" RX10 ∈ WN := wn_of (wm4 (List.mem_of_getElem? (i := 23) rfl)) rfl
theorem wn744 : Cond.fieldLinkNest RX5 54 RX6 "columnsBack" "I" RX10 ∈ WN := wn_of (wm4 (List.mem_of_getElem? (i := 24) rfl)) rfl
theorem wn1031 : Cond.castable "CellWindows" "java/lang/Object" ∈ WN := wn_of (wm5 (List.mem_of_getElem? (i := 71) rfl)) rfl
theorem wn1032 : Cond.castable "CellWindows$Program" "java/lang/Object" ∈ WN := wn_of (wm5 (List.mem_of_getElem? (i := 72) rfl)) rfl
theorem wn1033 : Cond.castable "java/util/ArrayList" "java/lang/Object" ∈ WN := wn_of (wm5 (List.mem_of_getElem? (i := 73) rfl)) rfl
theorem wn1034 : Cond.castable "CellWindows$Work" "java/lang/Object" ∈ WN := wn_of (wm5 (List.mem_of_getElem? (i := 74) rfl)) rfl
theorem wn1035 : Cond.castable "CellWindows$Differences" "java/lang/Object" ∈ WN := wn_of (wm5 (List.mem_of_getElem? (i := 75) rfl)) rfl
theorem wn1036 : Cond.castable "CellWindows$Window" "java/lang/Object" ∈ WN := wn_of (wm5 (List.mem_of_getElem? (i := 76) rfl)) rfl
theorem wn1037 : Cond.castable "CellWindows$Kind" "java/lang/Object" ∈ WN := wn_of (wm5 (List.mem_of_getElem? (i := 77) rfl)) rfl
theorem wn1038 : Cond.castable "CellWindows$Machine" "java/lang/Object" ∈ WN := wn_of (wm5 (List.mem_of_getElem? (i := 78) rfl)) rfl
theorem wn1039 : Cond.castable "CellWindows$Best" "java/lang/Object" ∈ WN := wn_of (wm5 (List.mem_of_getElem? (i := 79) rfl)) rfl
theorem wn1040 : Cond.castable "java/lang/IllegalArgumentException" "java/lang/Object" ∈ WN := wn_of (wm5 (List.mem_of_getElem? (i := 80) rfl)) rfl
theorem wn1041 : Cond.castable "java/lang/IllegalStateException" "java/lang/Object" ∈ WN := wn_of (wm5 (List.mem_of_getElem? (i := 81) rfl)) rfl
theorem wn1042 : Cond.castable "CellWindows$Statement" "java/lang/Object" ∈ WN := wn_of (wm5 (List.mem_of_getElem? (i := 82) rfl)) rfl
theorem wn1043 : Cond.castable "java/lang/IndexOutOfBoundsException" "java/lang/Object" ∈ WN := wn_of (wm5 (List.mem_of_getElem? (i := 83) rfl)) rfl
theorem wn1044 : Cond.castable "CellWindows$Read" "java/lang/Object" ∈ WN := wn_of (wm5 (List.mem_of_getElem? (i := 84) rfl)) rfl
theorem wn1045 : Cond.castable "java/lang/Throwable" "java/lang/Object" ∈ WN := wn_of (wm5 (List.mem_of_getElem? (i := 85) rfl)) rfl
theorem wn1046 : Cond.castable "java/lang/String" "java/lang/Object" ∈ WN := wn_of (wm5 (List.mem_of_getElem? (i := 86) rfl)) rfl
theorem wn1050 : Cond.castable "[I" "java/lang/Object" ∈ WN := wn_of (wm5 (List.mem_of_getElem? (i := 90) rfl)) rfl
theorem wn1051 : Cond.castable "[Z" "java/lang/Object" ∈ WN := wn_of (wm5 (List.mem_of_getElem? (i := 91) rfl)) rfl
theorem wn1052 : Cond.castable "[[I" "java/lang/Object" ∈ WN := wn_of (wm5 (List.mem_of_getElem? (i := 92) rfl)) rfl
theorem wn1053 : Cond.castable "[B" "java/lang/Object" ∈ WN := wn_of (wm5 (List.mem_of_getElem? (i := 93) rfl)) rfl
theorem wn1054 : Cond.castable "[Ljava/lang/Object;" "java/lang/Object" ∈ WN := wn_of (wm5 (List.mem_of_getElem? (i := 94) rfl)) rfl
def kNm : Nat → String
  | 0 => "WHOLE"
  | 1 => "REST"
  | 2 => "TWO_RESTS"
  | _ => "SLANT"
def sIx : Nat → Nat
  | 0 => 277
  | 1 => 79
  | 2 => 280
  | 3 => 103
  | 4 => 317
  | 5 => 285
  | 6 => 140
  | _ => 290
def sTx : Nat → String
  | 0 => "out of range"
  | 1 => "there are 4 statements"
  | 2 => "no such statement"
  | 3 => "the statement has 4 reads"
  | 4 => "no schedule with weights 0 to 3 is allowed"
  | 5 => "no such point"
  | 6 => "no such read"
  | _ => "no such step"
/-- q: 0..3 the constants of Kind, 4 the switch's array, 5 the empty elements, from 10 the texts -/
def EN (q : Nat → Nat) : EV := fun A U H =>
  (∀ w ∈ WN, va_Nw w U) ∧
  (∀ i, i < 4 → va_Z "CellWindows$Kind" (kNm i) "LCellWindows$Kind;" (.ref (q i)) A U H ∧ va_O "CellWindows$Kind" (q i) A U H) ∧
  va_Ef 4 "java/lang/Enum" "ordinal" "I" (fun i => .int (nI i)) q A U H ∧
  (∀ i j, i < 4 → j < 4 → q i = q j → i = j) ∧
  (va_Z "CellWindows$1" "$SwitchMap$CellWindows$Kind" "[I" (.ref (q 4)) A U H ∧ va_T .int (q 4) 4 (fun j => .int (nI j)) A U H) ∧
  (va_Z "java/util/ArrayList" "DEFAULTCAPACITY_EMPTY_ELEMENTDATA" "[Ljava/lang/Object;" (.ref (q 5)) A U H ∧ va_T (.object "java/lang/Object") (q 5) 0 (fun _ => .null) A U H) ∧
  (vx_Zq Bundle.tN "UNASSIGNED_STACK" Bundle.steD A U H ∧ vx_Zq Bundle.tN "SUPPRESSED_SENTINEL" Bundle.listD A U H) ∧
  (∀ i, i < 8 → vk_R "CellWindows" (sIx i) (sTx i) (q (10 + i)) U) ∧
  va_AO "java/lang/Object" U ∧ va_AOA .int U
theorem EN.stb (q : Nat → Nat) : Stb (EN q) := by
  refine ⟨?_, ?_, ?_⟩
  · rintro A B U H hAB ⟨h1, h2, h3, h4, ⟨h5, h6⟩, ⟨h7, h8⟩, ⟨h9, h10⟩, h11, h12, h13⟩
    exact ⟨h1, fun i hi => ⟨(h2 i hi).1.narrow hAB, (h2 i hi).2.narrow hAB⟩, h3.narrow hAB, h4, ⟨h5.narrow hAB, h6.narrow hAB⟩, ⟨h7.narrow hAB, h8.narrow hAB⟩, ⟨h9.narrow hAB, h10.narrow hAB⟩, h11, h12, h13⟩
  · rintro A u U H hW ⟨h1, h2, h3, h4, ⟨h5, h6⟩, ⟨h7, h8⟩, ⟨h9, h10⟩, h11, h12, h13⟩
    exact ⟨fun w hw => wn_warm hw hW (h1 w hw), fun i hi => ⟨va_Z.moved hW.alike (h2 i hi).1, va_O.moved hW.alike (h2 i hi).2⟩, va_Ef.moved hW.alike h3, h4, ⟨va_Z.moved hW.alike h5, va_T.moved hW.alike h6⟩, ⟨va_Z.moved hW.alike h7, va_T.moved hW.alike h8⟩, ⟨vx_Zq.moved hW.alike h9, vx_Zq.moved hW.alike h10⟩, fun i hi => vk_R.warm hW (h11 i hi), va_AO.moved hW.alike h12, va_AOA.moved hW.alike h13⟩
  · rintro A U H H1 hk ⟨h1, h2, h3, h4, ⟨h5, h6⟩, ⟨h7, h8⟩, ⟨h9, h10⟩, h11, h12, h13⟩
    exact ⟨h1, fun i hi => ⟨(h2 i hi).1.kept hk, (h2 i hi).2.kept hk⟩, h3.kept hk, h4, ⟨h5.kept hk, h6.kept hk⟩, ⟨h7.kept hk, h8.kept hk⟩, ⟨h9.kept hk, h10.kept hk⟩, h11, h12, h13⟩

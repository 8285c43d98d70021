theorem wm1 {w : Cond} (h : w ∈ tables_1_1) : w ∈ tables_1 := List.mem_append_left _ h
theorem wm2 {w : Cond} (h : w ∈ tables_1_2) : w ∈ tables_1 := List.mem_append_right _ (List.mem_append_left _ h)
theorem wm3 {w : Cond} (h : w ∈ tables_1_3) : w ∈ tables_1 := List.mem_append_right _ (List.mem_append_right _ (List.mem_append_left _ h))
theorem wm4 {w : Cond} (h : w ∈ tables_1_4) : w ∈ tables_1 := List.mem_append_right _ (List.mem_append_right _ (List.mem_append_right _ (List.mem_append_left _ h)))
theorem wm5 {w : Cond} (h : w ∈ tables_1_5) : w ∈ tables_1 := List.mem_append_right _ (List.mem_append_right _ (List.mem_append_right _ (List.mem_append_right _ (h))))
theorem w0 : Cond.initialized RL ∈ WA := wa_of (wm1 (List.mem_of_getElem? (i := 0) rfl)) rfl
theorem w1 : Cond.initialized RX10 ∈ WA := wa_of (wm1 (List.mem_of_getElem? (i := 1) rfl)) rfl
theorem w2 : Cond.initialized RX5 ∈ WA := wa_of (wm1 (List.mem_of_getElem? (i := 2) rfl)) rfl
theorem w3 : Cond.initialized RJxa1e45 ∈ WA := wa_of (wm1 (List.mem_of_getElem? (i := 3) rfl)) rfl
theorem w4 : Cond.initialized RJxc12de ∈ WA := wa_of (wm1 (List.mem_of_getElem? (i := 4) rfl)) rfl
theorem w5 : Cond.initialized RJx4a65c ∈ WA := wa_of (wm1 (List.mem_of_getElem? (i := 5) rfl)) rfl
theorem w6 : Cond.initialized RX9 ∈ WA := wa_of (wm1 (List.mem_of_getElem? (i := 6) rfl)) rfl
theorem w7 : Cond.initialized RX2 ∈ WA := wa_of (wm1 (List.mem_of_getElem? (i := 7) rfl)) rfl
theorem w8 : Cond.initialized RX8 ∈ WA := wa_of (wm1 (List.mem_of_getElem? (i := 8) rfl)) rfl
theorem w9 : Cond.initialized RJx29ce0 ∈ WA := wa_of (wm1 (List.mem_of_getElem? (i := 9) rfl)) rfl
theorem w10 : Cond.initialized RX3 ∈ WA := wa_of (wm1 (List.mem_of_getElem? (i := 10) rfl)) rfl
theorem w11 : Cond.initialized RX4 ∈ WA := wa_of (wm1 (List.mem_of_getElem? (i := 11) rfl)) rfl
theorem w12 : Cond.initialized RX1 ∈ WA := wa_of (wm1 (List.mem_of_getElem? (i := 12) rfl)) rfl
theorem w13 : Cond.initialized RJ15 ∈ WA := wa_of (wm1 (List.mem_of_getElem? (i := 13) rfl)) rfl
theorem w14 : Cond.initialized RJ3 ∈ WA := wa_of (wm1 (List.mem_of_getElem? (i := 14) rfl)) rfl
theorem w15 : Cond.initialized RJ7 ∈ WA := wa_of (wm1 (List.mem_of_getElem? (i := 15) rfl)) rfl
theorem w16 : Cond.initialized RJ9 ∈ WA := wa_of (wm1 (List.mem_of_getElem? (i := 16) rfl)) rfl
theorem w17 : Cond.initialized RX0 ∈ WA := wa_of (wm1 (List.mem_of_getElem? (i := 17) rfl)) rfl
theorem w18 : Cond.initialized "java/lang/Throwable" ∈ WA := wa_of (wm1 (List.mem_of_getElem? (i := 18) rfl)) rfl
theorem w19 : Cond.initialized "java/lang/Exception" ∈ WA := wa_of (wm1 (List.mem_of_getElem? (i := 19) rfl)) rfl
theorem w20 : Cond.initialized "java/lang/RuntimeException" ∈ WA := wa_of (wm1 (List.mem_of_getElem? (i := 20) rfl)) rfl
theorem w21 : Cond.initialized "java/lang/IllegalArgumentException" ∈ WA := wa_of (wm1 (List.mem_of_getElem? (i := 21) rfl)) rfl
theorem w22 : Cond.initialized "java/lang/IllegalStateException" ∈ WA := wa_of (wm1 (List.mem_of_getElem? (i := 22) rfl)) rfl
theorem w23 : Cond.initialized RX7 ∈ WA := wa_of (wm1 (List.mem_of_getElem? (i := 23) rfl)) rfl
theorem w24 : Cond.initialized RJ8 ∈ WA := wa_of (wm1 (List.mem_of_getElem? (i := 24) rfl)) rfl
theorem w25 : Cond.initialized RJ10 ∈ WA := wa_of (wm1 (List.mem_of_getElem? (i := 25) rfl)) rfl
theorem w26 : Cond.initialized "java/lang/IndexOutOfBoundsException" ∈ WA := wa_of (wm1 (List.mem_of_getElem? (i := 26) rfl)) rfl
theorem w27 : Cond.initialized RX6 ∈ WA := wa_of (wm1 (List.mem_of_getElem? (i := 27) rfl)) rfl
theorem w28 : Cond.classLink RL 9 RX10 ∈ WA := wa_of (wm1 (List.mem_of_getElem? (i := 28) rfl)) rfl
theorem w29 : Cond.instantiable RX10 9 ∈ WA := wa_of (wm1 (List.mem_of_getElem? (i := 29) rfl)) rfl
theorem w30 : Cond.methodLink RL 216 yX10_init ∈ WA := wa_of (wm1 (List.mem_of_getElem? (i := 30) rfl)) rfl
theorem w31 : Cond.instanceMethod yX10_init ∈ WA := wa_of (wm1 (List.mem_of_getElem? (i := 31) rfl)) rfl
theorem w32 : Cond.code yX10_init cX10_init 1 (Option.none : Option Jvm.ClassFile.FieldType) ∈ WA := wa_of (wm1 (List.mem_of_getElem? (i := 32) rfl)) rfl
theorem w33 : Cond.methodLink RX10 3 ⟨"java/lang/Object", "<init>", "()V"⟩ ∈ WA := wa_of (wm1 (List.mem_of_getElem? (i := 33) rfl)) rfl
theorem w34 : Cond.instanceMethod ⟨"java/lang/Object", "<init>", "()V"⟩ ∈ WA := wa_of (wm1 (List.mem_of_getElem? (i := 34) rfl)) rfl
theorem w35 : Cond.code ⟨"java/lang/Object", "<init>", "()V"⟩ object_method_1_code 1 (Option.none : Option Jvm.ClassFile.FieldType) ∈ WA := wa_of (wm1 (List.mem_of_getElem? (i := 35) rfl)) rfl
theorem w36 : Cond.classLink RX10 9 RX5 ∈ WA := wa_of (wm1 (List.mem_of_getElem? (i := 36) rfl)) rfl
theorem w37 : Cond.instantiable RX5 4 ∈ WA := wa_of (wm1 (List.mem_of_getElem? (i := 37) rfl)) rfl
theorem w39 : Cond.instanceMethod yX5_init ∈ WA := wa_of (wm1 (List.mem_of_getElem? (i := 39) rfl)) rfl
theorem w40 : Cond.code yX5_init cX5_init 1 (Option.none : Option Jvm.ClassFile.FieldType) ∈ WA := wa_of (wm1 (List.mem_of_getElem? (i := 40) rfl)) rfl
theorem w41 : Cond.methodLink RX5 3 ⟨"java/lang/Object", "<init>", "()V"⟩ ∈ WA := wa_of (wm1 (List.mem_of_getElem? (i := 41) rfl)) rfl
theorem w42 : Cond.classLink RX5 9 RJx4a65c ∈ WA := wa_of (wm1 (List.mem_of_getElem? (i := 42) rfl)) rfl
theorem w43 : Cond.instantiable RJx4a65c 3 ∈ WA := wa_of (wm1 (List.mem_of_getElem? (i := 43) rfl)) rfl
theorem w44 : Cond.methodLink RX5 11 yJx4a65c_init_da8c8 ∈ WA := wa_of (wm1 (List.mem_of_getElem? (i := 44) rfl)) rfl
theorem w45 : Cond.instanceMethod yJx4a65c_init_da8c8 ∈ WA := wa_of (wm1 (List.mem_of_getElem? (i := 45) rfl)) rfl
theorem w46 : Cond.code yJx4a65c_init_da8c8 cJx4a65c_init_da8c8 1 (Option.none : Option Jvm.ClassFile.FieldType) ∈ WA := wa_of (wm1 (List.mem_of_getElem? (i := 46) rfl)) rfl
theorem w47 : Cond.methodLink RJx4a65c 1 yJxc12de_init_da8c8 ∈ WA := wa_of (wm1 (List.mem_of_getElem? (i := 47) rfl)) rfl
theorem w48 : Cond.instanceMethod yJxc12de_init_da8c8 ∈ WA := wa_of (wm1 (List.mem_of_getElem? (i := 48) rfl)) rfl
theorem w49 : Cond.code yJxc12de_init_da8c8 cJxc12de_init_da8c8 1 (Option.none : Option Jvm.ClassFile.FieldType) ∈ WA := wa_of (wm1 (List.mem_of_getElem? (i := 49) rfl)) rfl
theorem w50 : Cond.methodLink RJxc12de 1 yJxa1e45_init_da8c8 ∈ WA := wa_of (wm1 (List.mem_of_getElem? (i := 50) rfl)) rfl
theorem w51 : Cond.instanceMethod yJxa1e45_init_da8c8 ∈ WA := wa_of (wm1 (List.mem_of_getElem? (i := 51) rfl)) rfl
theorem w52 : Cond.code yJxa1e45_init_da8c8 cJxa1e45_init_da8c8 1 (Option.none : Option Jvm.ClassFile.FieldType) ∈ WA := wa_of (wm1 (List.mem_of_getElem? (i := 52) rfl)) rfl
theorem w53 : Cond.methodLink RJxa1e45 1 ⟨"java/lang/Object", "<init>", "()V"⟩ ∈ WA := wa_of (wm1 (List.mem_of_getElem? (i := 53) rfl)) rfl
theorem w54 : Cond.fieldLink RJx4a65c 39 "java/util/ArrayList" "DEFAULTCAPACITY_EMPTY_ELEMENTDATA" "[Ljava/lang/Object;" ∈ WA := wa_of (wm1 (List.mem_of_getElem? (i := 54) rfl)) rfl
theorem w56 : Cond.fieldLink RJx4a65c 9 "java/util/ArrayList" "elementData" "[Ljava/lang/Object;" ∈ WA := wa_of (wm1 (List.mem_of_getElem? (i := 56) rfl)) rfl
theorem w57 : Cond.fieldLink RJx4a65c 48 "java/util/ArrayList" "size" "I" ∈ WA := wa_of (wm1 (List.mem_of_getElem? (i := 57) rfl)) rfl
theorem w58 : Cond.fieldLink RJxc12de 7 "java/util/AbstractList" "modCount" "I" ∈ WA := wa_of (wm1 (List.mem_of_getElem? (i := 58) rfl)) rfl
theorem w59 : Cond.fieldLink RJx4a65c 63 "java/util/ArrayList" "modCount" "I" ∈ WA := wa_of (wm1 (List.mem_of_getElem? (i := 59) rfl)) rfl
theorem w60 : Cond.sameField "java/util/ArrayList" "java/util/AbstractList" "modCount" "I" ∈ WA := wa_of (wm1 (List.mem_of_getElem? (i := 60) rfl)) rfl
theorem w68 : Cond.fieldLink RX5 12 "CellWindows$Program" "statements" "Ljava/util/ArrayList;" ∈ WA := wa_of (wm1 (List.mem_of_getElem? (i := 68) rfl)) rfl
theorem w72 : Cond.fieldLink RX5 18 "CellWindows$Program" "rows" "I" ∈ WA := wa_of (wm1 (List.mem_of_getElem? (i := 72) rfl)) rfl
theorem w75 : Cond.fieldLink RX5 22 "CellWindows$Program" "columns" "I" ∈ WA := wa_of (wm1 (List.mem_of_getElem? (i := 75) rfl)) rfl
theorem w80 : Cond.fieldLink RX5 25 "CellWindows$Program" "points" "I" ∈ WA := wa_of (wm1 (List.mem_of_getElem? (i := 80) rfl)) rfl
theorem w91 : Cond.classLink RX10 16 RX9 ∈ WA := wa_of (wm1 (List.mem_of_getElem? (i := 91) rfl)) rfl
theorem w92 : Cond.instantiable RX9 10 ∈ WA := wa_of (wm1 (List.mem_of_getElem? (i := 92) rfl)) rfl
theorem w94 : Cond.instanceMethod yX9_init ∈ WA := wa_of (wm1 (List.mem_of_getElem? (i := 94) rfl)) rfl
theorem w95 : Cond.code yX9_init cX9_init 1 (Option.none : Option Jvm.ClassFile.FieldType) ∈ WA := wa_of (wm1 (List.mem_of_getElem? (i := 95) rfl)) rfl
theorem w96 : Cond.methodLink RX9 3 ⟨"java/lang/Object", "<init>", "()V"⟩ ∈ WA := wa_of (wm1 (List.mem_of_getElem? (i := 96) rfl)) rfl
theorem w97 : Cond.fieldLink RX9 9 "CellWindows$Work" "number" "[I" ∈ WA := wa_of (wm1 (List.mem_of_getElem? (i := 97) rfl)) rfl
theorem w100 : Cond.fieldLink RX9 15 "CellWindows$Work" "row" "[I" ∈ WA := wa_of (wm1 (List.mem_of_getElem? (i := 100) rfl)) rfl
theorem w103 : Cond.fieldLink RX9 18 "CellWindows$Work" "column" "[I" ∈ WA := wa_of (wm1 (List.mem_of_getElem? (i := 103) rfl)) rfl
theorem w106 : Cond.fieldLink RX9 21 "CellWindows$Work" "birth" "[I" ∈ WA := wa_of (wm1 (List.mem_of_getElem? (i := 106) rfl)) rfl
theorem w108 : Cond.fieldLink RX9 24 "CellWindows$Work" "end" "[I" ∈ WA := wa_of (wm1 (List.mem_of_getElem? (i := 108) rfl)) rfl
theorem w110 : Cond.fieldLink RX9 27 "CellWindows$Work" "cellAt" "[I" ∈ WA := wa_of (wm1 (List.mem_of_getElem? (i := 110) rfl)) rfl
theorem w112 : Cond.fieldLink RX9 30 "CellWindows$Work" "time" "[I" ∈ WA := wa_of (wm1 (List.mem_of_getElem? (i := 112) rfl)) rfl
theorem w113 : Cond.fieldLink RX9 33 "CellWindows$Work" "nextStep" "[I" ∈ WA := wa_of (wm1 (List.mem_of_getElem? (i := 113) rfl)) rfl
theorem w114 : Cond.fieldLink RX9 36 "CellWindows$Work" "change" "[I" ∈ WA := wa_of (wm1 (List.mem_of_getElem? (i := 114) rfl)) rfl
theorem w115 : Cond.fieldLink RX9 39 "CellWindows$Work" "cells" "I" ∈ WA := wa_of (wm1 (List.mem_of_getElem? (i := 115) rfl)) rfl
theorem w137 : Cond.arrayClass ClassFile.FieldType.int ∈ WA := wa_of (wm1 (List.mem_of_getElem? (i := 137) rfl)) rfl
theorem w138 : Cond.classLink RX10 23 RX2 ∈ WA := wa_of (wm1 (List.mem_of_getElem? (i := 138) rfl)) rfl
theorem w139 : Cond.instantiable RX2 7 ∈ WA := wa_of (wm1 (List.mem_of_getElem? (i := 139) rfl)) rfl
theorem w141 : Cond.instanceMethod yX2_init ∈ WA := wa_of (wm1 (List.mem_of_getElem? (i := 141) rfl)) rfl
theorem w142 : Cond.code yX2_init cX2_init 1 (Option.none : Option Jvm.ClassFile.FieldType) ∈ WA := wa_of (wm1 (List.mem_of_getElem? (i := 142) rfl)) rfl
theorem w143 : Cond.methodLink RX2 3 ⟨"java/lang/Object", "<init>", "()V"⟩ ∈ WA := wa_of (wm1 (List.mem_of_getElem? (i := 143) rfl)) rfl
theorem w144 : Cond.fieldLink RX2 9 "CellWindows$Differences" "known" "[Z" ∈ WA := wa_of (wm1 (List.mem_of_getElem? (i := 144) rfl)) rfl
theorem w145 : Cond.fieldLink RX2 15 "CellWindows$Differences" "rowDifference" "[I" ∈ WA := wa_of (wm1 (List.mem_of_getElem? (i := 145) rfl)) rfl
theorem w146 : Cond.fieldLink RX2 19 "CellWindows$Differences" "columnDifference" "[I" ∈ WA := wa_of (wm1 (List.mem_of_getElem? (i := 146) rfl)) rfl
theorem w147 : Cond.fieldLink RX2 22 "CellWindows$Differences" "inLine" "[Z" ∈ WA := wa_of (wm1 (List.mem_of_getElem? (i := 147) rfl)) rfl
theorem w148 : Cond.fieldLink RX2 25 "CellWindows$Differences" "count" "I" ∈ WA := wa_of (wm1 (List.mem_of_getElem? (i := 148) rfl)) rfl
theorem w149 : Cond.fieldLink RX2 29 "CellWindows$Differences" "rows" "I" ∈ WA := wa_of (wm1 (List.mem_of_getElem? (i := 149) rfl)) rfl
theorem w150 : Cond.fieldLink RX2 32 "CellWindows$Differences" "columns" "I" ∈ WA := wa_of (wm1 (List.mem_of_getElem? (i := 150) rfl)) rfl
theorem w166 : Cond.arrayClass ClassFile.FieldType.boolean ∈ WA := wa_of (wm1 (List.mem_of_getElem? (i := 166) rfl)) rfl
theorem w167 : Cond.classLink RX10 30 RX8 ∈ WA := wa_of (wm1 (List.mem_of_getElem? (i := 167) rfl)) rfl
theorem w168 : Cond.instantiable RX8 5 ∈ WA := wa_of (wm1 (List.mem_of_getElem? (i := 168) rfl)) rfl
theorem w170 : Cond.instanceMethod yX8_init ∈ WA := wa_of (wm1 (List.mem_of_getElem? (i := 170) rfl)) rfl
theorem w171 : Cond.code yX8_init cX8_init 1 (Option.none : Option Jvm.ClassFile.FieldType) ∈ WA := wa_of (wm1 (List.mem_of_getElem? (i := 171) rfl)) rfl
theorem w172 : Cond.methodLink RX8 1 ⟨"java/lang/Object", "<init>", "()V"⟩ ∈ WA := wa_of (wm1 (List.mem_of_getElem? (i := 172) rfl)) rfl
theorem w173 : Cond.fieldLink RX8 7 "CellWindows$Kind" "WHOLE" "LCellWindows$Kind;" ∈ WA := wa_of (wm1 (List.mem_of_getElem? (i := 173) rfl)) rfl
theorem w175 : Cond.fieldLink RX8 13 "CellWindows$Window" "kind" "LCellWindows$Kind;" ∈ WA := wa_of (wm1 (List.mem_of_getElem? (i := 175) rfl)) rfl
theorem w176 : Cond.fieldLink RX8 18 "CellWindows$Window" "modulus" "I" ∈ WA := wa_of (wm1 (List.mem_of_getElem? (i := 176) rfl)) rfl
theorem w178 : Cond.fieldLink RX8 22 "CellWindows$Window" "rowModulus" "I" ∈ WA := wa_of (wm1 (List.mem_of_getElem? (i := 178) rfl)) rfl
theorem w180 : Cond.fieldLink RX8 25 "CellWindows$Window" "columnModulus" "I" ∈ WA := wa_of (wm1 (List.mem_of_getElem? (i := 180) rfl)) rfl
theorem w182 : Cond.fieldLink RX8 28 "CellWindows$Window" "slant" "I" ∈ WA := wa_of (wm1 (List.mem_of_getElem? (i := 182) rfl)) rfl
theorem w195 : Cond.classLink RX10 37 RX4 ∈ WA := wa_of (wm1 (List.mem_of_getElem? (i := 195) rfl)) rfl
theorem w196 : Cond.instantiable RX4 2 ∈ WA := wa_of (wm1 (List.mem_of_getElem? (i := 196) rfl)) rfl
theorem w197 : Cond.methodLink RX10 39 yX4_init ∈ WA := wa_of (wm1 (List.mem_of_getElem? (i := 197) rfl)) rfl
theorem w198 : Cond.instanceMethod yX4_init ∈ WA := wa_of (wm1 (List.mem_of_getElem? (i := 198) rfl)) rfl
theorem w199 : Cond.code yX4_init cX4_init 2 (Option.none : Option Jvm.ClassFile.FieldType) ∈ WA := wa_of (wm1 (List.mem_of_getElem? (i := 199) rfl)) rfl
theorem w200 : Cond.methodLink RX4 3 ⟨"java/lang/Object", "<init>", "()V"⟩ ∈ WA := wa_of (wm1 (List.mem_of_getElem? (i := 200) rfl)) rfl
theorem w201 : Cond.classLink RX4 15 "[[I" ∈ WA := wa_of (wm1 (List.mem_of_getElem? (i := 201) rfl)) rfl
theorem w203 : Cond.fieldLink RX4 9 "CellWindows$Machine" "contracted" "Z" ∈ WA := wa_of (wm1 (List.mem_of_getElem? (i := 203) rfl)) rfl
theorem w204 : Cond.fieldLink RX4 17 "CellWindows$Machine" "kept" "[[I" ∈ WA := wa_of (wm1 (List.mem_of_getElem? (i := 204) rfl)) rfl
theorem w210 : Cond.classLink RX10 49 RX1 ∈ WA := wa_of (wm1 (List.mem_of_getElem? (i := 210) rfl)) rfl
theorem w211 : Cond.instantiable RX1 4 ∈ WA := wa_of (wm1 (List.mem_of_getElem? (i := 211) rfl)) rfl
theorem w213 : Cond.instanceMethod yX1_init ∈ WA := wa_of (wm1 (List.mem_of_getElem? (i := 213) rfl)) rfl
theorem w214 : Cond.code yX1_init cX1_init 1 (Option.none : Option Jvm.ClassFile.FieldType) ∈ WA := wa_of (wm1 (List.mem_of_getElem? (i := 214) rfl)) rfl
theorem w215 : Cond.methodLink RX1 1 ⟨"java/lang/Object", "<init>", "()V"⟩ ∈ WA := wa_of (wm1 (List.mem_of_getElem? (i := 215) rfl)) rfl
theorem w216 : Cond.fieldLink RX1 7 "CellWindows$Best" "found" "Z" ∈ WA := wa_of (wm1 (List.mem_of_getElem? (i := 216) rfl)) rfl
theorem w218 : Cond.fieldLink RX1 13 "CellWindows$Best" "rowWeight" "I" ∈ WA := wa_of (wm1 (List.mem_of_getElem? (i := 218) rfl)) rfl
theorem w220 : Cond.fieldLink RX1 17 "CellWindows$Best" "columnWeight" "I" ∈ WA := wa_of (wm1 (List.mem_of_getElem? (i := 220) rfl)) rfl
theorem w222 : Cond.fieldLink RX1 20 "CellWindows$Best" "room" "I" ∈ WA := wa_of (wm1 (List.mem_of_getElem? (i := 222) rfl)) rfl
theorem w233 : Cond.fieldLink RX10 12 "CellWindows" "program" "LCellWindows$Program;" ∈ WA := wa_of (wm1 (List.mem_of_getElem? (i := 233) rfl)) rfl
theorem w234 : Cond.fieldLink RX10 19 "CellWindows" "work" "LCellWindows$Work;" ∈ WA := wa_of (wm1 (List.mem_of_getElem? (i := 234) rfl)) rfl
theorem w235 : Cond.fieldLink RX10 26 "CellWindows" "differences" "LCellWindows$Differences;" ∈ WA := wa_of (wm1 (List.mem_of_getElem? (i := 235) rfl)) rfl
theorem w236 : Cond.fieldLink RX10 33 "CellWindows" "least" "LCellWindows$Window;" ∈ WA := wa_of (wm1 (List.mem_of_getElem? (i := 236) rfl)) rfl
theorem w237 : Cond.fieldLink RX10 42 "CellWindows" "plainMachine" "LCellWindows$Machine;" ∈ WA := wa_of (wm1 (List.mem_of_getElem? (i := 237) rfl)) rfl
theorem w238 : Cond.fieldLink RX10 46 "CellWindows" "contractedMachine" "LCellWindows$Machine;" ∈ WA := wa_of (wm1 (List.mem_of_getElem? (i := 238) rfl)) rfl
theorem w239 : Cond.fieldLink RX10 52 "CellWindows" "best" "LCellWindows$Best;" ∈ WA := wa_of (wm1 (List.mem_of_getElem? (i := 239) rfl)) rfl
theorem w240 : Cond.fieldLink RX10 56 "CellWindows" "rowWeight" "I" ∈ WA := wa_of (wm2 (List.mem_of_getElem? (i := 0) rfl)) rfl
theorem w241 : Cond.fieldLink RX10 60 "CellWindows" "columnWeight" "I" ∈ WA := wa_of (wm2 (List.mem_of_getElem? (i := 1) rfl)) rfl
theorem w261 : Cond.methodLink RL 110 yX10_isAllowed ∈ WA := wa_of (wm2 (List.mem_of_getElem? (i := 21) rfl)) rfl
theorem w262 : Cond.instanceMethod yX10_isAllowed ∈ WA := wa_of (wm2 (List.mem_of_getElem? (i := 22) rfl)) rfl
theorem w263 : Cond.selects RX10 yX10_isAllowed yX10_isAllowed ∈ WA := wa_of (wm2 (List.mem_of_getElem? (i := 23) rfl)) rfl
theorem w264 : Cond.code yX10_isAllowed cX10_isAllowed 1 (Option.some Jvm.ClassFile.FieldType.boolean) ∈ WA := wa_of (wm2 (List.mem_of_getElem? (i := 24) rfl)) rfl
theorem w265 : Cond.methodLink RX10 134 yX5_allows ∈ WA := wa_of (wm2 (List.mem_of_getElem? (i := 25) rfl)) rfl
theorem w266 : Cond.instanceMethod yX5_allows ∈ WA := wa_of (wm2 (List.mem_of_getElem? (i := 26) rfl)) rfl
theorem w267 : Cond.selects RX5 yX5_allows yX5_allows ∈ WA := wa_of (wm2 (List.mem_of_getElem? (i := 27) rfl)) rfl
theorem w268 : Cond.code yX5_allows cX5_allows 6 (Option.some Jvm.ClassFile.FieldType.boolean) ∈ WA := wa_of (wm2 (List.mem_of_getElem? (i := 28) rfl)) rfl
theorem w269 : Cond.methodLink RX5 28 yJx4a65c_size_8abf5 ∈ WA := wa_of (wm2 (List.mem_of_getElem? (i := 29) rfl)) rfl
theorem w270 : Cond.instanceMethod yJx4a65c_size_8abf5 ∈ WA := wa_of (wm2 (List.mem_of_getElem? (i := 30) rfl)) rfl
theorem w271 : Cond.selects RJx4a65c yJx4a65c_size_8abf5 yJx4a65c_size_8abf5 ∈ WA := wa_of (wm2 (List.mem_of_getElem? (i := 31) rfl)) rfl
theorem w272 : Cond.code yJx4a65c_size_8abf5 cJx4a65c_size_8abf5 1 (Option.some Jvm.ClassFile.FieldType.int) ∈ WA := wa_of (wm2 (List.mem_of_getElem? (i := 32) rfl)) rfl
theorem w273 : Cond.methodLink RX5 36 yJx4a65c_get_915e3 ∈ WA := wa_of (wm2 (List.mem_of_getElem? (i := 33) rfl)) rfl
theorem w274 : Cond.instanceMethod yJx4a65c_get_915e3 ∈ WA := wa_of (wm2 (List.mem_of_getElem? (i := 34) rfl)) rfl
theorem w275 : Cond.selects RJx4a65c yJx4a65c_get_915e3 yJx4a65c_get_915e3 ∈ WA := wa_of (wm2 (List.mem_of_getElem? (i := 35) rfl)) rfl
theorem w276 : Cond.code yJx4a65c_get_915e3 cJx4a65c_get_915e3 2 (Option.some (Jvm.ClassFile.FieldType.object "java/lang/Object")) ∈ WA := wa_of (wm2 (List.mem_of_getElem? (i := 36) rfl)) rfl
theorem w277 : Cond.methodLink RJx4a65c 118 yJ15_checkIndex_7cf53 ∈ WA := wa_of (wm2 (List.mem_of_getElem? (i := 37) rfl)) rfl
theorem w278 : Cond.static yJ15_checkIndex_7cf53 ∈ WA := wa_of (wm2 (List.mem_of_getElem? (i := 38) rfl)) rfl
theorem w279 : Cond.code yJ15_checkIndex_7cf53 cJ15_checkIndex_7cf53 2 (Option.some Jvm.ClassFile.FieldType.int) ∈ WA := wa_of (wm2 (List.mem_of_getElem? (i := 39) rfl)) rfl
theorem w280 : Cond.methodLink RJ15 105 yJ3_checkIndex_8e157 ∈ WA := wa_of (wm2 (List.mem_of_getElem? (i := 40) rfl)) rfl
theorem w281 : Cond.static yJ3_checkIndex_8e157 ∈ WA := wa_of (wm2 (List.mem_of_getElem? (i := 41) rfl)) rfl
theorem w282 : Cond.code yJ3_checkIndex_8e157 cJ3_checkIndex_8e157 3 (Option.some Jvm.ClassFile.FieldType.int) ∈ WA := wa_of (wm2 (List.mem_of_getElem? (i := 42) rfl)) rfl
theorem w283 : Cond.methodLink RJx4a65c 123 yJx4a65c_elementData_915e3 ∈ WA := wa_of (wm2 (List.mem_of_getElem? (i := 43) rfl)) rfl
theorem w284 : Cond.instanceMethod yJx4a65c_elementData_915e3 ∈ WA := wa_of (wm2 (List.mem_of_getElem? (i := 44) rfl)) rfl
theorem w285 : Cond.selects RJx4a65c yJx4a65c_elementData_915e3 yJx4a65c_elementData_915e3 ∈ WA := wa_of (wm2 (List.mem_of_getElem? (i := 45) rfl)) rfl
theorem w286 : Cond.code yJx4a65c_elementData_915e3 cJx4a65c_elementData_915e3 2 (Option.some (Jvm.ClassFile.FieldType.object "java/lang/Object")) ∈ WA := wa_of (wm2 (List.mem_of_getElem? (i := 46) rfl)) rfl
theorem w287 : Cond.classLink RX5 40 RX7 ∈ WA := wa_of (wm2 (List.mem_of_getElem? (i := 47) rfl)) rfl
theorem w288 : Cond.classLink RX5 45 RX6 ∈ WA := wa_of (wm2 (List.mem_of_getElem? (i := 48) rfl)) rfl
theorem w289 : Cond.methodLink RX5 47 yX5_comesLater ∈ WA := wa_of (wm2 (List.mem_of_getElem? (i := 49) rfl)) rfl
theorem w290 : Cond.instanceMethod yX5_comesLater ∈ WA := wa_of (wm2 (List.mem_of_getElem? (i := 50) rfl)) rfl
theorem w291 : Cond.selects RX5 yX5_comesLater yX5_comesLater ∈ WA := wa_of (wm2 (List.mem_of_getElem? (i := 51) rfl)) rfl
theorem w292 : Cond.code yX5_comesLater cX5_comesLater 6 (Option.some Jvm.ClassFile.FieldType.boolean) ∈ WA := wa_of (wm2 (List.mem_of_getElem? (i := 52) rfl)) rfl
theorem w293 : Cond.methodLink RX5 57 yJ9_abs_0f7a4 ∈ WA := wa_of (wm2 (List.mem_of_getElem? (i := 53) rfl)) rfl
theorem w294 : Cond.static yJ9_abs_0f7a4 ∈ WA := wa_of (wm2 (List.mem_of_getElem? (i := 54) rfl)) rfl
theorem w295 : Cond.code yJ9_abs_0f7a4 cJ9_abs_0f7a4 1 (Option.some Jvm.ClassFile.FieldType.int) ∈ WA := wa_of (wm2 (List.mem_of_getElem? (i := 55) rfl)) rfl
theorem w296 : Cond.methodLink RL 107 yX10_steps ∈ WA := wa_of (wm2 (List.mem_of_getElem? (i := 56) rfl)) rfl
theorem w297 : Cond.instanceMethod yX10_steps ∈ WA := wa_of (wm2 (List.mem_of_getElem? (i := 57) rfl)) rfl
theorem w298 : Cond.selects RX10 yX10_steps yX10_steps ∈ WA := wa_of (wm2 (List.mem_of_getElem? (i := 58) rfl)) rfl
theorem w299 : Cond.code yX10_steps cX10_steps 1 (Option.some Jvm.ClassFile.FieldType.int) ∈ WA := wa_of (wm2 (List.mem_of_getElem? (i := 59) rfl)) rfl
theorem w300 : Cond.methodLink RX10 147 yX5_cells ∈ WA := wa_of (wm2 (List.mem_of_getElem? (i := 60) rfl)) rfl
theorem w301 : Cond.instanceMethod yX5_cells ∈ WA := wa_of (wm2 (List.mem_of_getElem? (i := 61) rfl)) rfl
theorem w302 : Cond.selects RX5 yX5_cells yX5_cells ∈ WA := wa_of (wm2 (List.mem_of_getElem? (i := 62) rfl)) rfl
theorem w303 : Cond.code yX5_cells cX5_cells 1 (Option.some Jvm.ClassFile.FieldType.int) ∈ WA := wa_of (wm2 (List.mem_of_getElem? (i := 63) rfl)) rfl
theorem w304 : Cond.methodLink RX5 32 yX5_firstCell ∈ WA := wa_of (wm2 (List.mem_of_getElem? (i := 64) rfl)) rfl
theorem w305 : Cond.instanceMethod yX5_firstCell ∈ WA := wa_of (wm2 (List.mem_of_getElem? (i := 65) rfl)) rfl
theorem w306 : Cond.selects RX5 yX5_firstCell yX5_firstCell ∈ WA := wa_of (wm2 (List.mem_of_getElem? (i := 66) rfl)) rfl
theorem w307 : Cond.code yX5_firstCell cX5_firstCell 2 (Option.some Jvm.ClassFile.FieldType.int) ∈ WA := wa_of (wm2 (List.mem_of_getElem? (i := 67) rfl)) rfl
theorem w308 : Cond.methodLink RL 121 yX10_mostLive ∈ WA := wa_of (wm2 (List.mem_of_getElem? (i := 68) rfl)) rfl
theorem w309 : Cond.instanceMethod yX10_mostLive ∈ WA := wa_of (wm2 (List.mem_of_getElem? (i := 69) rfl)) rfl
theorem w310 : Cond.selects RX10 yX10_mostLive yX10_mostLive ∈ WA := wa_of (wm2 (List.mem_of_getElem? (i := 70) rfl)) rfl
theorem w311 : Cond.code yX10_mostLive cX10_mostLive 1 (Option.some Jvm.ClassFile.FieldType.int) ∈ WA := wa_of (wm2 (List.mem_of_getElem? (i := 71) rfl)) rfl
theorem w312 : Cond.methodLink RX10 154 yX10_arranged ∈ WA := wa_of (wm2 (List.mem_of_getElem? (i := 72) rfl)) rfl
theorem w314 : Cond.instanceMethod yX10_arranged ∈ WA := wa_of (wm2 (List.mem_of_getElem? (i := 74) rfl)) rfl
theorem w315 : Cond.code yX10_arranged cX10_arranged 1 (Option.some (Jvm.ClassFile.FieldType.object "CellWindows$Work")) ∈ WA := wa_of (wm2 (List.mem_of_getElem? (i := 75) rfl)) rfl
theorem w316 : Cond.methodLink RX10 292 yX9_arrange ∈ WA := wa_of (wm2 (List.mem_of_getElem? (i := 76) rfl)) rfl
theorem w317 : Cond.instanceMethod yX9_arrange ∈ WA := wa_of (wm2 (List.mem_of_getElem? (i := 77) rfl)) rfl
theorem w318 : Cond.selects RX9 yX9_arrange yX9_arrange ∈ WA := wa_of (wm2 (List.mem_of_getElem? (i := 78) rfl)) rfl
theorem w319 : Cond.code yX9_arrange cX9_arrange 5 (Option.none : Option Jvm.ClassFile.FieldType) ∈ WA := wa_of (wm2 (List.mem_of_getElem? (i := 79) rfl)) rfl
theorem w320 : Cond.methodLink RX9 43 yX5_cells ∈ WA := wa_of (wm2 (List.mem_of_getElem? (i := 80) rfl)) rfl
theorem w321 : Cond.methodLink RX9 52 yJx4a65c_size_8abf5 ∈ WA := wa_of (wm2 (List.mem_of_getElem? (i := 81) rfl)) rfl
theorem w322 : Cond.methodLink RX9 57 yX9_setTimes ∈ WA := wa_of (wm2 (List.mem_of_getElem? (i := 82) rfl)) rfl
theorem w324 : Cond.instanceMethod yX9_setTimes ∈ WA := wa_of (wm2 (List.mem_of_getElem? (i := 84) rfl)) rfl
theorem w325 : Cond.code yX9_setTimes cX9_setTimes 9 (Option.none : Option Jvm.ClassFile.FieldType) ∈ WA := wa_of (wm2 (List.mem_of_getElem? (i := 85) rfl)) rfl
theorem w326 : Cond.methodLink RX9 68 yJx4a65c_get_915e3 ∈ WA := wa_of (wm2 (List.mem_of_getElem? (i := 86) rfl)) rfl
theorem w327 : Cond.classLink RX9 72 RX7 ∈ WA := wa_of (wm2 (List.mem_of_getElem? (i := 87) rfl)) rfl
theorem w328 : Cond.methodLink RX9 77 yX5_firstCell ∈ WA := wa_of (wm2 (List.mem_of_getElem? (i := 88) rfl)) rfl
theorem w329 : Cond.methodLink RX9 61 yX9_setSteps ∈ WA := wa_of (wm2 (List.mem_of_getElem? (i := 89) rfl)) rfl
theorem w331 : Cond.instanceMethod yX9_setSteps ∈ WA := wa_of (wm2 (List.mem_of_getElem? (i := 91) rfl)) rfl
theorem w332 : Cond.code yX9_setSteps cX9_setSteps 3 (Option.none : Option Jvm.ClassFile.FieldType) ∈ WA := wa_of (wm2 (List.mem_of_getElem? (i := 92) rfl)) rfl
theorem w333 : Cond.methodLink RX9 87 yJ7_fill_53178 ∈ WA := wa_of (wm2 (List.mem_of_getElem? (i := 93) rfl)) rfl
theorem w334 : Cond.static yJ7_fill_53178 ∈ WA := wa_of (wm2 (List.mem_of_getElem? (i := 94) rfl)) rfl
theorem w335 : Cond.code yJ7_fill_53178 cJ7_fill_53178 4 (Option.none : Option Jvm.ClassFile.FieldType) ∈ WA := wa_of (wm2 (List.mem_of_getElem? (i := 95) rfl)) rfl
theorem w336 : Cond.methodLink RX9 64 yX9_setEnds ∈ WA := wa_of (wm2 (List.mem_of_getElem? (i := 96) rfl)) rfl
theorem w338 : Cond.instanceMethod yX9_setEnds ∈ WA := wa_of (wm2 (List.mem_of_getElem? (i := 98) rfl)) rfl
theorem w339 : Cond.code yX9_setEnds cX9_setEnds 5 (Option.none : Option Jvm.ClassFile.FieldType) ∈ WA := wa_of (wm2 (List.mem_of_getElem? (i := 99) rfl)) rfl
theorem w340 : Cond.classLink RX9 100 RX6 ∈ WA := wa_of (wm2 (List.mem_of_getElem? (i := 100) rfl)) rfl
theorem w341 : Cond.methodLink RX9 102 yX9_stretchCellRead ∈ WA := wa_of (wm2 (List.mem_of_getElem? (i := 101) rfl)) rfl
theorem w343 : Cond.instanceMethod yX9_stretchCellRead ∈ WA := wa_of (wm2 (List.mem_of_getElem? (i := 103) rfl)) rfl
theorem w344 : Cond.code yX9_stretchCellRead cX9_stretchCellRead 7 (Option.none : Option Jvm.ClassFile.FieldType) ∈ WA := wa_of (wm2 (List.mem_of_getElem? (i := 104) rfl)) rfl
theorem w345 : Cond.methodLink RX9 112 yX5_hasPoint ∈ WA := wa_of (wm2 (List.mem_of_getElem? (i := 105) rfl)) rfl
theorem w346 : Cond.instanceMethod yX5_hasPoint ∈ WA := wa_of (wm2 (List.mem_of_getElem? (i := 106) rfl)) rfl
theorem w347 : Cond.selects RX5 yX5_hasPoint yX5_hasPoint ∈ WA := wa_of (wm2 (List.mem_of_getElem? (i := 107) rfl)) rfl
theorem w348 : Cond.code yX5_hasPoint cX5_hasPoint 3 (Option.some Jvm.ClassFile.FieldType.boolean) ∈ WA := wa_of (wm2 (List.mem_of_getElem? (i := 108) rfl)) rfl
theorem w349 : Cond.methodLink RX9 119 yX5_cellOf ∈ WA := wa_of (wm2 (List.mem_of_getElem? (i := 109) rfl)) rfl
theorem w350 : Cond.instanceMethod yX5_cellOf ∈ WA := wa_of (wm2 (List.mem_of_getElem? (i := 110) rfl)) rfl
theorem w351 : Cond.selects RX5 yX5_cellOf yX5_cellOf ∈ WA := wa_of (wm2 (List.mem_of_getElem? (i := 111) rfl)) rfl
theorem w352 : Cond.code yX5_cellOf cX5_cellOf 4 (Option.some Jvm.ClassFile.FieldType.int) ∈ WA := wa_of (wm2 (List.mem_of_getElem? (i := 112) rfl)) rfl
theorem w353 : Cond.methodLink RX9 123 yJ9_max_7cf53 ∈ WA := wa_of (wm2 (List.mem_of_getElem? (i := 113) rfl)) rfl
theorem w354 : Cond.static yJ9_max_7cf53 ∈ WA := wa_of (wm2 (List.mem_of_getElem? (i := 114) rfl)) rfl
theorem w355 : Cond.code yJ9_max_7cf53 cJ9_max_7cf53 2 (Option.some Jvm.ClassFile.FieldType.int) ∈ WA := wa_of (wm2 (List.mem_of_getElem? (i := 115) rfl)) rfl
theorem w356 : Cond.methodLink RX10 181 yX9_mostLiveAmong ∈ WA := wa_of (wm2 (List.mem_of_getElem? (i := 116) rfl)) rfl
theorem w357 : Cond.instanceMethod yX9_mostLiveAmong ∈ WA := wa_of (wm2 (List.mem_of_getElem? (i := 117) rfl)) rfl
theorem w358 : Cond.selects RX9 yX9_mostLiveAmong yX9_mostLiveAmong ∈ WA := wa_of (wm2 (List.mem_of_getElem? (i := 118) rfl)) rfl
theorem w359 : Cond.code yX9_mostLiveAmong cX9_mostLiveAmong 6 (Option.some Jvm.ClassFile.FieldType.int) ∈ WA := wa_of (wm2 (List.mem_of_getElem? (i := 119) rfl)) rfl
theorem w360 : Cond.methodLink RL 213 yX10_contract ∈ WA := wa_of (wm2 (List.mem_of_getElem? (i := 120) rfl)) rfl
theorem w361 : Cond.instanceMethod yX10_contract ∈ WA := wa_of (wm2 (List.mem_of_getElem? (i := 121) rfl)) rfl
theorem w362 : Cond.selects RX10 yX10_contract yX10_contract ∈ WA := wa_of (wm2 (List.mem_of_getElem? (i := 122) rfl)) rfl
theorem w363 : Cond.code yX10_contract cX10_contract 2 (Option.some Jvm.ClassFile.FieldType.int) ∈ WA := wa_of (wm2 (List.mem_of_getElem? (i := 123) rfl)) rfl
theorem w364 : Cond.methodLink RX10 71 yJx4a65c_size_8abf5 ∈ WA := wa_of (wm2 (List.mem_of_getElem? (i := 124) rfl)) rfl
theorem w365 : Cond.methodLink RX10 206 yX10_gatherDifferences ∈ WA := wa_of (wm2 (List.mem_of_getElem? (i := 125) rfl)) rfl
theorem w367 : Cond.instanceMethod yX10_gatherDifferences ∈ WA := wa_of (wm2 (List.mem_of_getElem? (i := 127) rfl)) rfl
theorem w368 : Cond.code yX10_gatherDifferences cX10_gatherDifferences 2 (Option.none : Option Jvm.ClassFile.FieldType) ∈ WA := wa_of (wm2 (List.mem_of_getElem? (i := 128) rfl)) rfl
theorem w369 : Cond.methodLink RX10 296 yX2_clear ∈ WA := wa_of (wm2 (List.mem_of_getElem? (i := 129) rfl)) rfl
theorem w370 : Cond.instanceMethod yX2_clear ∈ WA := wa_of (wm2 (List.mem_of_getElem? (i := 130) rfl)) rfl
theorem w371 : Cond.selects RX2 yX2_clear yX2_clear ∈ WA := wa_of (wm2 (List.mem_of_getElem? (i := 131) rfl)) rfl
theorem w372 : Cond.code yX2_clear cX2_clear 3 (Option.none : Option Jvm.ClassFile.FieldType) ∈ WA := wa_of (wm2 (List.mem_of_getElem? (i := 132) rfl)) rfl
theorem w373 : Cond.methodLink RX10 254 yX2_add ∈ WA := wa_of (wm2 (List.mem_of_getElem? (i := 133) rfl)) rfl
theorem w374 : Cond.instanceMethod yX2_add ∈ WA := wa_of (wm2 (List.mem_of_getElem? (i := 134) rfl)) rfl
theorem w375 : Cond.selects RX2 yX2_add yX2_add ∈ WA := wa_of (wm2 (List.mem_of_getElem? (i := 135) rfl)) rfl
theorem w376 : Cond.code yX2_add cX2_add 9 (Option.none : Option Jvm.ClassFile.FieldType) ∈ WA := wa_of (wm2 (List.mem_of_getElem? (i := 136) rfl)) rfl
theorem w377 : Cond.methodLink RX2 39 yX5_firstCell ∈ WA := wa_of (wm2 (List.mem_of_getElem? (i := 137) rfl)) rfl
theorem w378 : Cond.methodLink RX2 43 yX9_inConflict ∈ WA := wa_of (wm2 (List.mem_of_getElem? (i := 138) rfl)) rfl
theorem w379 : Cond.instanceMethod yX9_inConflict ∈ WA := wa_of (wm2 (List.mem_of_getElem? (i := 139) rfl)) rfl
theorem w380 : Cond.selects RX9 yX9_inConflict yX9_inConflict ∈ WA := wa_of (wm2 (List.mem_of_getElem? (i := 140) rfl)) rfl
theorem w381 : Cond.code yX9_inConflict cX9_inConflict 3 (Option.some Jvm.ClassFile.FieldType.boolean) ∈ WA := wa_of (wm2 (List.mem_of_getElem? (i := 141) rfl)) rfl
theorem w382 : Cond.methodLink RX9 129 yX9_isBornWithin ∈ WA := wa_of (wm2 (List.mem_of_getElem? (i := 142) rfl)) rfl
theorem w384 : Cond.instanceMethod yX9_isBornWithin ∈ WA := wa_of (wm2 (List.mem_of_getElem? (i := 144) rfl)) rfl
theorem w385 : Cond.code yX9_isBornWithin cX9_isBornWithin 3 (Option.some Jvm.ClassFile.FieldType.boolean) ∈ WA := wa_of (wm2 (List.mem_of_getElem? (i := 145) rfl)) rfl
theorem w386 : Cond.methodLink RX2 55 yX2_addOne ∈ WA := wa_of (wm2 (List.mem_of_getElem? (i := 146) rfl)) rfl
theorem w388 : Cond.instanceMethod yX2_addOne ∈ WA := wa_of (wm2 (List.mem_of_getElem? (i := 148) rfl)) rfl
theorem w389 : Cond.code yX2_addOne cX2_addOne 4 (Option.none : Option Jvm.ClassFile.FieldType) ∈ WA := wa_of (wm2 (List.mem_of_getElem? (i := 149) rfl)) rfl
theorem w390 : Cond.methodLink RX10 96 yJx4a65c_get_915e3 ∈ WA := wa_of (wm2 (List.mem_of_getElem? (i := 150) rfl)) rfl
theorem w391 : Cond.classLink RX10 84 RX7 ∈ WA := wa_of (wm2 (List.mem_of_getElem? (i := 151) rfl)) rfl
theorem w392 : Cond.methodLink RX10 209 yX10_keepSmallest ∈ WA := wa_of (wm2 (List.mem_of_getElem? (i := 152) rfl)) rfl
theorem w394 : Cond.instanceMethod yX10_keepSmallest ∈ WA := wa_of (wm2 (List.mem_of_getElem? (i := 154) rfl)) rfl
theorem w395 : Cond.code yX10_keepSmallest cX10_keepSmallest 2 (Option.none : Option Jvm.ClassFile.FieldType) ∈ WA := wa_of (wm2 (List.mem_of_getElem? (i := 155) rfl)) rfl
theorem w396 : Cond.methodLink RX10 191 yX8_becomeWhole ∈ WA := wa_of (wm2 (List.mem_of_getElem? (i := 156) rfl)) rfl
theorem w397 : Cond.instanceMethod yX8_becomeWhole ∈ WA := wa_of (wm2 (List.mem_of_getElem? (i := 157) rfl)) rfl
theorem w398 : Cond.selects RX8 yX8_becomeWhole yX8_becomeWhole ∈ WA := wa_of (wm2 (List.mem_of_getElem? (i := 158) rfl)) rfl
theorem w399 : Cond.code yX8_becomeWhole cX8_becomeWhole 1 (Option.none : Option Jvm.ClassFile.FieldType) ∈ WA := wa_of (wm2 (List.mem_of_getElem? (i := 159) rfl)) rfl
theorem w400 : Cond.methodLink RX10 229 yX2_leastRestModulus ∈ WA := wa_of (wm2 (List.mem_of_getElem? (i := 160) rfl)) rfl
theorem w401 : Cond.instanceMethod yX2_leastRestModulus ∈ WA := wa_of (wm2 (List.mem_of_getElem? (i := 161) rfl)) rfl
theorem w402 : Cond.selects RX2 yX2_leastRestModulus yX2_leastRestModulus ∈ WA := wa_of (wm2 (List.mem_of_getElem? (i := 162) rfl)) rfl
theorem w403 : Cond.code yX2_leastRestModulus cX2_leastRestModulus 3 (Option.some Jvm.ClassFile.FieldType.int) ∈ WA := wa_of (wm2 (List.mem_of_getElem? (i := 163) rfl)) rfl
theorem w404 : Cond.methodLink RX2 65 yX8_becomeRest ∈ WA := wa_of (wm2 (List.mem_of_getElem? (i := 164) rfl)) rfl
theorem w405 : Cond.instanceMethod yX8_becomeRest ∈ WA := wa_of (wm2 (List.mem_of_getElem? (i := 165) rfl)) rfl
theorem w406 : Cond.selects RX8 yX8_becomeRest yX8_becomeRest ∈ WA := wa_of (wm2 (List.mem_of_getElem? (i := 166) rfl)) rfl
theorem w407 : Cond.code yX8_becomeRest cX8_becomeRest 2 (Option.none : Option Jvm.ClassFile.FieldType) ∈ WA := wa_of (wm2 (List.mem_of_getElem? (i := 167) rfl)) rfl
theorem w408 : Cond.fieldLink RX8 31 "CellWindows$Kind" "REST" "LCellWindows$Kind;" ∈ WA := wa_of (wm2 (List.mem_of_getElem? (i := 168) rfl)) rfl
theorem w410 : Cond.methodLink RX2 69 yX2_areKeptApart ∈ WA := wa_of (wm2 (List.mem_of_getElem? (i := 170) rfl)) rfl
theorem w411 : Cond.instanceMethod yX2_areKeptApart ∈ WA := wa_of (wm2 (List.mem_of_getElem? (i := 171) rfl)) rfl
theorem w412 : Cond.selects RX2 yX2_areKeptApart yX2_areKeptApart ∈ WA := wa_of (wm2 (List.mem_of_getElem? (i := 172) rfl)) rfl
theorem w413 : Cond.code yX2_areKeptApart cX2_areKeptApart 3 (Option.some Jvm.ClassFile.FieldType.boolean) ∈ WA := wa_of (wm2 (List.mem_of_getElem? (i := 173) rfl)) rfl
theorem w414 : Cond.methodLink RX2 59 yX8_keepsApart ∈ WA := wa_of (wm2 (List.mem_of_getElem? (i := 174) rfl)) rfl
theorem w415 : Cond.instanceMethod yX8_keepsApart ∈ WA := wa_of (wm2 (List.mem_of_getElem? (i := 175) rfl)) rfl
theorem w416 : Cond.selects RX8 yX8_keepsApart yX8_keepsApart ∈ WA := wa_of (wm2 (List.mem_of_getElem? (i := 176) rfl)) rfl
theorem w417 : Cond.code yX8_keepsApart cX8_keepsApart 4 (Option.some Jvm.ClassFile.FieldType.boolean) ∈ WA := wa_of (wm2 (List.mem_of_getElem? (i := 177) rfl)) rfl
theorem w418 : Cond.fieldLink RX8 40 "CellWindows$1" "$SwitchMap$CellWindows$Kind" "[I" ∈ WA := wa_of (wm2 (List.mem_of_getElem? (i := 178) rfl)) rfl
theorem w420 : Cond.methodLink RX8 46 ⟨"CellWindows$Kind", "ordinal", "()I"⟩ ∈ WA := wa_of (wm2 (List.mem_of_getElem? (i := 180) rfl)) rfl
theorem w423 : Cond.selects RX3 ⟨"CellWindows$Kind", "ordinal", "()I"⟩ yJx29ce0_ordinal_8abf5 ∈ WA := wa_of (wm2 (List.mem_of_getElem? (i := 183) rfl)) rfl
theorem w424 : Cond.instanceMethod yJx29ce0_ordinal_8abf5 ∈ WA := wa_of (wm2 (List.mem_of_getElem? (i := 184) rfl)) rfl
theorem w425 : Cond.code yJx29ce0_ordinal_8abf5 cJx29ce0_ordinal_8abf5 1 (Option.some Jvm.ClassFile.FieldType.int) ∈ WA := wa_of (wm2 (List.mem_of_getElem? (i := 185) rfl)) rfl
theorem w427 : Cond.static yX10_restOf ∈ WA := wa_of (wm2 (List.mem_of_getElem? (i := 187) rfl)) rfl
theorem w428 : Cond.code yX10_restOf cX10_restOf 2 (Option.some Jvm.ClassFile.FieldType.int) ∈ WA := wa_of (wm2 (List.mem_of_getElem? (i := 188) rfl)) rfl
theorem w429 : Cond.methodLink RX10 302 yX10_keepIfSmaller ∈ WA := wa_of (wm2 (List.mem_of_getElem? (i := 189) rfl)) rfl
theorem w431 : Cond.instanceMethod yX10_keepIfSmaller ∈ WA := wa_of (wm2 (List.mem_of_getElem? (i := 191) rfl)) rfl
theorem w432 : Cond.code yX10_keepIfSmaller cX10_keepIfSmaller 3 (Option.none : Option Jvm.ClassFile.FieldType) ∈ WA := wa_of (wm2 (List.mem_of_getElem? (i := 192) rfl)) rfl
theorem w433 : Cond.methodLink RX10 299 yX8_places ∈ WA := wa_of (wm2 (List.mem_of_getElem? (i := 193) rfl)) rfl
theorem w434 : Cond.instanceMethod yX8_places ∈ WA := wa_of (wm2 (List.mem_of_getElem? (i := 194) rfl)) rfl
theorem w435 : Cond.selects RX8 yX8_places yX8_places ∈ WA := wa_of (wm2 (List.mem_of_getElem? (i := 195) rfl)) rfl
theorem w436 : Cond.code yX8_places cX8_places 2 (Option.some Jvm.ClassFile.FieldType.int) ∈ WA := wa_of (wm2 (List.mem_of_getElem? (i := 196) rfl)) rfl
theorem w437 : Cond.fieldLink RX8 34 "CellWindows$Kind" "TWO_RESTS" "LCellWindows$Kind;" ∈ WA := wa_of (wm2 (List.mem_of_getElem? (i := 197) rfl)) rfl
theorem w439 : Cond.methodLink RX10 305 yX8_become ∈ WA := wa_of (wm2 (List.mem_of_getElem? (i := 199) rfl)) rfl
theorem w440 : Cond.instanceMethod yX8_become ∈ WA := wa_of (wm2 (List.mem_of_getElem? (i := 200) rfl)) rfl
theorem w441 : Cond.selects RX8 yX8_become yX8_become ∈ WA := wa_of (wm2 (List.mem_of_getElem? (i := 201) rfl)) rfl
theorem w442 : Cond.code yX8_become cX8_become 2 (Option.none : Option Jvm.ClassFile.FieldType) ∈ WA := wa_of (wm2 (List.mem_of_getElem? (i := 202) rfl)) rfl
theorem w443 : Cond.methodLink RX10 236 yX2_findTwoRests ∈ WA := wa_of (wm2 (List.mem_of_getElem? (i := 203) rfl)) rfl
theorem w444 : Cond.instanceMethod yX2_findTwoRests ∈ WA := wa_of (wm2 (List.mem_of_getElem? (i := 204) rfl)) rfl
theorem w445 : Cond.selects RX2 yX2_findTwoRests yX2_findTwoRests ∈ WA := wa_of (wm2 (List.mem_of_getElem? (i := 205) rfl)) rfl
theorem w446 : Cond.code yX2_findTwoRests cX2_findTwoRests 6 (Option.none : Option Jvm.ClassFile.FieldType) ∈ WA := wa_of (wm2 (List.mem_of_getElem? (i := 206) rfl)) rfl
theorem w447 : Cond.methodLink RX2 82 yX8_becomeTwoRests ∈ WA := wa_of (wm2 (List.mem_of_getElem? (i := 207) rfl)) rfl
theorem w448 : Cond.instanceMethod yX8_becomeTwoRests ∈ WA := wa_of (wm2 (List.mem_of_getElem? (i := 208) rfl)) rfl
theorem w449 : Cond.selects RX8 yX8_becomeTwoRests yX8_becomeTwoRests ∈ WA := wa_of (wm2 (List.mem_of_getElem? (i := 209) rfl)) rfl
theorem w450 : Cond.code yX8_becomeTwoRests cX8_becomeTwoRests 3 (Option.none : Option Jvm.ClassFile.FieldType) ∈ WA := wa_of (wm2 (List.mem_of_getElem? (i := 210) rfl)) rfl
theorem w451 : Cond.methodLink RX10 245 yX2_findSlant ∈ WA := wa_of (wm2 (List.mem_of_getElem? (i := 211) rfl)) rfl
theorem w452 : Cond.instanceMethod yX2_findSlant ∈ WA := wa_of (wm2 (List.mem_of_getElem? (i := 212) rfl)) rfl
theorem w453 : Cond.selects RX2 yX2_findSlant yX2_findSlant ∈ WA := wa_of (wm2 (List.mem_of_getElem? (i := 213) rfl)) rfl
theorem w454 : Cond.code yX2_findSlant cX2_findSlant 4 (Option.none : Option Jvm.ClassFile.FieldType) ∈ WA := wa_of (wm2 (List.mem_of_getElem? (i := 214) rfl)) rfl
theorem w455 : Cond.methodLink RX2 85 yX8_becomeSlant ∈ WA := wa_of (wm2 (List.mem_of_getElem? (i := 215) rfl)) rfl
theorem w456 : Cond.instanceMethod yX8_becomeSlant ∈ WA := wa_of (wm2 (List.mem_of_getElem? (i := 216) rfl)) rfl
theorem w457 : Cond.selects RX8 yX8_becomeSlant yX8_becomeSlant ∈ WA := wa_of (wm2 (List.mem_of_getElem? (i := 217) rfl)) rfl
theorem w458 : Cond.code yX8_becomeSlant cX8_becomeSlant 3 (Option.none : Option Jvm.ClassFile.FieldType) ∈ WA := wa_of (wm2 (List.mem_of_getElem? (i := 218) rfl)) rfl
theorem w459 : Cond.fieldLink RX8 37 "CellWindows$Kind" "SLANT" "LCellWindows$Kind;" ∈ WA := wa_of (wm2 (List.mem_of_getElem? (i := 219) rfl)) rfl
theorem w461 : Cond.methodLink RX10 213 yX10_room ∈ WA := wa_of (wm2 (List.mem_of_getElem? (i := 221) rfl)) rfl
theorem w462 : Cond.instanceMethod yX10_room ∈ WA := wa_of (wm2 (List.mem_of_getElem? (i := 222) rfl)) rfl
theorem w463 : Cond.selects RX10 yX10_room yX10_room ∈ WA := wa_of (wm2 (List.mem_of_getElem? (i := 223) rfl)) rfl
theorem w464 : Cond.code yX10_room cX10_room 3 (Option.some Jvm.ClassFile.FieldType.int) ∈ WA := wa_of (wm2 (List.mem_of_getElem? (i := 224) rfl)) rfl
theorem w465 : Cond.methodLink RX10 194 yX10_placesOf ∈ WA := wa_of (wm2 (List.mem_of_getElem? (i := 225) rfl)) rfl
theorem w467 : Cond.instanceMethod yX10_placesOf ∈ WA := wa_of (wm2 (List.mem_of_getElem? (i := 227) rfl)) rfl
theorem w468 : Cond.code yX10_placesOf cX10_placesOf 2 (Option.some Jvm.ClassFile.FieldType.int) ∈ WA := wa_of (wm2 (List.mem_of_getElem? (i := 228) rfl)) rfl
theorem w469 : Cond.methodLink RL 152 yX10_room ∈ WA := wa_of (wm2 (List.mem_of_getElem? (i := 229) rfl)) rfl
theorem w470 : Cond.methodLink RL 203 yX10_firstWrongStep ∈ WA := wa_of (wm2 (List.mem_of_getElem? (i := 230) rfl)) rfl
theorem w471 : Cond.instanceMethod yX10_firstWrongStep ∈ WA := wa_of (wm2 (List.mem_of_getElem? (i := 231) rfl)) rfl
theorem w472 : Cond.selects RX10 yX10_firstWrongStep yX10_firstWrongStep ∈ WA := wa_of (wm2 (List.mem_of_getElem? (i := 232) rfl)) rfl
theorem w473 : Cond.code yX10_firstWrongStep cX10_firstWrongStep 3 (Option.some Jvm.ClassFile.FieldType.int) ∈ WA := wa_of (wm2 (List.mem_of_getElem? (i := 233) rfl)) rfl
theorem w474 : Cond.methodLink RX10 261 yX4_empty ∈ WA := wa_of (wm2 (List.mem_of_getElem? (i := 234) rfl)) rfl
theorem w475 : Cond.instanceMethod yX4_empty ∈ WA := wa_of (wm2 (List.mem_of_getElem? (i := 235) rfl)) rfl
theorem w476 : Cond.selects RX4 yX4_empty yX4_empty ∈ WA := wa_of (wm2 (List.mem_of_getElem? (i := 236) rfl)) rfl
theorem w477 : Cond.code yX4_empty cX4_empty 2 (Option.none : Option Jvm.ClassFile.FieldType) ∈ WA := wa_of (wm2 (List.mem_of_getElem? (i := 237) rfl)) rfl
theorem w478 : Cond.methodLink RX4 20 yJ7_fill_53178 ∈ WA := wa_of (wm2 (List.mem_of_getElem? (i := 238) rfl)) rfl
theorem w479 : Cond.methodLink RX10 264 yX4_doStep ∈ WA := wa_of (wm2 (List.mem_of_getElem? (i := 239) rfl)) rfl
theorem w480 : Cond.instanceMethod yX4_doStep ∈ WA := wa_of (wm3 (List.mem_of_getElem? (i := 0) rfl)) rfl
theorem w481 : Cond.selects RX4 yX4_doStep yX4_doStep ∈ WA := wa_of (wm3 (List.mem_of_getElem? (i := 1) rfl)) rfl
theorem w482 : Cond.code yX4_doStep cX4_doStep 11 (Option.some Jvm.ClassFile.FieldType.int) ∈ WA := wa_of (wm3 (List.mem_of_getElem? (i := 2) rfl)) rfl
theorem w483 : Cond.methodLink RX4 44 yJx4a65c_get_915e3 ∈ WA := wa_of (wm3 (List.mem_of_getElem? (i := 3) rfl)) rfl
theorem w484 : Cond.classLink RX4 50 RX7 ∈ WA := wa_of (wm3 (List.mem_of_getElem? (i := 4) rfl)) rfl
theorem w485 : Cond.methodLink RX4 59 yJx4a65c_size_8abf5 ∈ WA := wa_of (wm3 (List.mem_of_getElem? (i := 5) rfl)) rfl
theorem w486 : Cond.classLink RX4 63 RX6 ∈ WA := wa_of (wm3 (List.mem_of_getElem? (i := 6) rfl)) rfl
theorem w487 : Cond.methodLink RX4 77 yX4_taken ∈ WA := wa_of (wm3 (List.mem_of_getElem? (i := 7) rfl)) rfl
theorem w489 : Cond.instanceMethod yX4_taken ∈ WA := wa_of (wm3 (List.mem_of_getElem? (i := 9) rfl)) rfl
theorem w490 : Cond.code yX4_taken cX4_taken 6 (Option.some Jvm.ClassFile.FieldType.int) ∈ WA := wa_of (wm3 (List.mem_of_getElem? (i := 10) rfl)) rfl
theorem w491 : Cond.methodLink RX4 84 yX5_hasPoint ∈ WA := wa_of (wm3 (List.mem_of_getElem? (i := 11) rfl)) rfl
theorem w492 : Cond.methodLink RX4 88 yJ9_floorMod_7cf53 ∈ WA := wa_of (wm3 (List.mem_of_getElem? (i := 12) rfl)) rfl
theorem w493 : Cond.static yJ9_floorMod_7cf53 ∈ WA := wa_of (wm3 (List.mem_of_getElem? (i := 13) rfl)) rfl
theorem w494 : Cond.code yJ9_floorMod_7cf53 cJ9_floorMod_7cf53 3 (Option.some Jvm.ClassFile.FieldType.int) ∈ WA := wa_of (wm3 (List.mem_of_getElem? (i := 14) rfl)) rfl
theorem w495 : Cond.methodLink RX4 81 yX4_placeIn ∈ WA := wa_of (wm3 (List.mem_of_getElem? (i := 15) rfl)) rfl
theorem w497 : Cond.instanceMethod yX4_placeIn ∈ WA := wa_of (wm3 (List.mem_of_getElem? (i := 17) rfl)) rfl
theorem w498 : Cond.code yX4_placeIn cX4_placeIn 5 (Option.some Jvm.ClassFile.FieldType.int) ∈ WA := wa_of (wm3 (List.mem_of_getElem? (i := 18) rfl)) rfl
theorem w499 : Cond.methodLink RX4 101 yX8_placeFor ∈ WA := wa_of (wm3 (List.mem_of_getElem? (i := 19) rfl)) rfl
theorem w500 : Cond.instanceMethod yX8_placeFor ∈ WA := wa_of (wm3 (List.mem_of_getElem? (i := 20) rfl)) rfl
theorem w501 : Cond.selects RX8 yX8_placeFor yX8_placeFor ∈ WA := wa_of (wm3 (List.mem_of_getElem? (i := 21) rfl)) rfl
theorem w502 : Cond.code yX8_placeFor cX8_placeFor 4 (Option.some Jvm.ClassFile.FieldType.int) ∈ WA := wa_of (wm3 (List.mem_of_getElem? (i := 22) rfl)) rfl
theorem w503 : Cond.methodLink RL 217 yL_part ∈ WA := wa_of (wm3 (List.mem_of_getElem? (i := 23) rfl)) rfl
theorem w504 : Cond.static yL_part ∈ WA := wa_of (wm3 (List.mem_of_getElem? (i := 24) rfl)) rfl
theorem w505 : Cond.code yL_part cL_part 4 (Option.some Jvm.ClassFile.FieldType.int) ∈ WA := wa_of (wm3 (List.mem_of_getElem? (i := 25) rfl)) rfl
theorem w507 : Cond.methodLink RL 117 yL_does ∈ WA := wa_of (wm3 (List.mem_of_getElem? (i := 27) rfl)) rfl
theorem w508 : Cond.static yL_does ∈ WA := wa_of (wm3 (List.mem_of_getElem? (i := 28) rfl)) rfl
theorem w510 : Cond.classLink RL 71 "java/lang/IndexOutOfBoundsException" ∈ WA := wa_of (wm3 (List.mem_of_getElem? (i := 30) rfl)) rfl
theorem w511 : Cond.classLink RL 73 "java/lang/IllegalArgumentException" ∈ WA := wa_of (wm3 (List.mem_of_getElem? (i := 31) rfl)) rfl
theorem w512 : Cond.classLink RL 75 "java/lang/IllegalStateException" ∈ WA := wa_of (wm3 (List.mem_of_getElem? (i := 32) rfl)) rfl
theorem w513 : Cond.methodLink RL 8 yX10_addStatement ∈ WA := wa_of (wm3 (List.mem_of_getElem? (i := 33) rfl)) rfl
theorem w514 : Cond.instanceMethod yX10_addStatement ∈ WA := wa_of (wm3 (List.mem_of_getElem? (i := 34) rfl)) rfl
theorem w515 : Cond.selects RX10 yX10_addStatement yX10_addStatement ∈ WA := wa_of (wm3 (List.mem_of_getElem? (i := 35) rfl)) rfl
theorem w516 : Cond.code yX10_addStatement cX10_addStatement 2 (Option.some Jvm.ClassFile.FieldType.int) ∈ WA := wa_of (wm3 (List.mem_of_getElem? (i := 36) rfl)) rfl
theorem w517 : Cond.methodLink RX10 63 yX10_requireRange ∈ WA := wa_of (wm3 (List.mem_of_getElem? (i := 37) rfl)) rfl
theorem w518 : Cond.static yX10_requireRange ∈ WA := wa_of (wm3 (List.mem_of_getElem? (i := 38) rfl)) rfl
theorem w519 : Cond.code yX10_requireRange cX10_requireRange 3 (Option.none : Option Jvm.ClassFile.FieldType) ∈ WA := wa_of (wm3 (List.mem_of_getElem? (i := 39) rfl)) rfl
theorem w520 : Cond.classLink RX10 275 "java/lang/IllegalArgumentException" ∈ WA := wa_of (wm3 (List.mem_of_getElem? (i := 40) rfl)) rfl
theorem w521 : Cond.instantiable "java/lang/IllegalArgumentException" 6 ∈ WA := wa_of (wm3 (List.mem_of_getElem? (i := 41) rfl)) rfl
theorem w529 : Cond.selects "java/lang/IllegalArgumentException" ⟨"java/lang/Throwable", "fillInStackTrace", "(I)Ljava/lang/Throwable;"⟩ ⟨"java/lang/Throwable", "fillInStackTrace", "(I)Ljava/lang/Throwable;"⟩ ∈ WA := wa_of (wm3 (List.mem_of_getElem? (i := 49) rfl)) rfl
theorem w530 : Cond.selects "java/lang/IllegalArgumentException" ⟨"java/lang/Throwable", "fillInStackTrace", "()Ljava/lang/Throwable;"⟩ ⟨"java/lang/Throwable", "fillInStackTrace", "()Ljava/lang/Throwable;"⟩ ∈ WA := wa_of (wm3 (List.mem_of_getElem? (i := 50) rfl)) rfl
theorem w574 : Cond.fieldLink "java/lang/Throwable" 198 "java/lang/Throwable" "backtrace" "Ljava/lang/Object;" ∈ WA := wa_of (wm3 (List.mem_of_getElem? (i := 94) rfl)) rfl
theorem w543 : Cond.instanceMethod ⟨"java/lang/Throwable", "<init>", "()V"⟩ ∈ WA := wa_of (wm3 (List.mem_of_getElem? (i := 63) rfl)) rfl
theorem w544 : Cond.code ⟨"java/lang/Throwable", "<init>", "()V"⟩ prog_27_method_1_code 1 (Option.none : Option Jvm.ClassFile.FieldType) ∈ WA := wa_of (wm3 (List.mem_of_getElem? (i := 64) rfl)) rfl
theorem w545 : Cond.methodLink "java/lang/Throwable" 1 ⟨"java/lang/Object", "<init>", "()V"⟩ ∈ WA := wa_of (wm3 (List.mem_of_getElem? (i := 65) rfl)) rfl
theorem w546 : Cond.fieldLink "java/lang/Throwable" 13 "java/lang/Throwable" "UNASSIGNED_STACK" "[Ljava/lang/StackTraceElement;" ∈ WA := wa_of (wm3 (List.mem_of_getElem? (i := 66) rfl)) rfl
theorem w548 : Cond.fieldLink "java/lang/Throwable" 20 "java/lang/Throwable" "SUPPRESSED_SENTINEL" "Ljava/util/List;" ∈ WA := wa_of (wm3 (List.mem_of_getElem? (i := 68) rfl)) rfl
theorem w550 : Cond.methodLink "java/lang/Throwable" 27 ⟨"java/lang/Throwable", "fillInStackTrace", "()Ljava/lang/Throwable;"⟩ ∈ WA := wa_of (wm3 (List.mem_of_getElem? (i := 70) rfl)) rfl
theorem w551 : Cond.instanceMethod ⟨"java/lang/Throwable", "fillInStackTrace", "()Ljava/lang/Throwable;"⟩ ∈ WA := wa_of (wm3 (List.mem_of_getElem? (i := 71) rfl)) rfl
theorem w553 : Cond.selects "java/lang/IllegalStateException" ⟨"java/lang/Throwable", "fillInStackTrace", "()Ljava/lang/Throwable;"⟩ ⟨"java/lang/Throwable", "fillInStackTrace", "()Ljava/lang/Throwable;"⟩ ∈ WA := wa_of (wm3 (List.mem_of_getElem? (i := 73) rfl)) rfl
theorem w554 : Cond.selects "java/lang/IndexOutOfBoundsException" ⟨"java/lang/Throwable", "fillInStackTrace", "()Ljava/lang/Throwable;"⟩ ⟨"java/lang/Throwable", "fillInStackTrace", "()Ljava/lang/Throwable;"⟩ ∈ WA := wa_of (wm3 (List.mem_of_getElem? (i := 74) rfl)) rfl
theorem w556 : Cond.methodLink "java/lang/Throwable" 202 ⟨"java/lang/Throwable", "fillInStackTrace", "(I)Ljava/lang/Throwable;"⟩ ∈ WA := wa_of (wm3 (List.mem_of_getElem? (i := 76) rfl)) rfl
theorem w558 : Cond.instanceMethod ⟨"java/lang/Throwable", "fillInStackTrace", "(I)Ljava/lang/Throwable;"⟩ ∈ WA := wa_of (wm3 (List.mem_of_getElem? (i := 78) rfl)) rfl
theorem w559 : Cond.instantiable "java/lang/Throwable" 6 ∈ WA := wa_of (wm3 (List.mem_of_getElem? (i := 79) rfl)) rfl
theorem w562 : Cond.methodLink RX10 279 ⟨"java/lang/IllegalArgumentException", "<init>", "(Ljava/lang/String;)V"⟩ ∈ WA := wa_of (wm3 (List.mem_of_getElem? (i := 82) rfl)) rfl
theorem w563 : Cond.instanceMethod ⟨"java/lang/IllegalArgumentException", "<init>", "(Ljava/lang/String;)V"⟩ ∈ WA := wa_of (wm3 (List.mem_of_getElem? (i := 83) rfl)) rfl
theorem w564 : Cond.code ⟨"java/lang/IllegalArgumentException", "<init>", "(Ljava/lang/String;)V"⟩ prog_19_method_2_code 2 (Option.none : Option Jvm.ClassFile.FieldType) ∈ WA := wa_of (wm3 (List.mem_of_getElem? (i := 84) rfl)) rfl
theorem w565 : Cond.methodLink "java/lang/IllegalArgumentException" 7 ⟨"java/lang/RuntimeException", "<init>", "(Ljava/lang/String;)V"⟩ ∈ WA := wa_of (wm3 (List.mem_of_getElem? (i := 85) rfl)) rfl
theorem w566 : Cond.instanceMethod ⟨"java/lang/RuntimeException", "<init>", "(Ljava/lang/String;)V"⟩ ∈ WA := wa_of (wm3 (List.mem_of_getElem? (i := 86) rfl)) rfl
theorem w567 : Cond.code ⟨"java/lang/RuntimeException", "<init>", "(Ljava/lang/String;)V"⟩ prog_24_method_2_code 2 (Option.none : Option Jvm.ClassFile.FieldType) ∈ WA := wa_of (wm3 (List.mem_of_getElem? (i := 87) rfl)) rfl
theorem w568 : Cond.methodLink "java/lang/RuntimeException" 7 ⟨"java/lang/Exception", "<init>", "(Ljava/lang/String;)V"⟩ ∈ WA := wa_of (wm3 (List.mem_of_getElem? (i := 88) rfl)) rfl
theorem w569 : Cond.instanceMethod ⟨"java/lang/Exception", "<init>", "(Ljava/lang/String;)V"⟩ ∈ WA := wa_of (wm3 (List.mem_of_getElem? (i := 89) rfl)) rfl
theorem w570 : Cond.code ⟨"java/lang/Exception", "<init>", "(Ljava/lang/String;)V"⟩ prog_18_method_2_code 2 (Option.none : Option Jvm.ClassFile.FieldType) ∈ WA := wa_of (wm3 (List.mem_of_getElem? (i := 90) rfl)) rfl
theorem w571 : Cond.methodLink "java/lang/Exception" 7 ⟨"java/lang/Throwable", "<init>", "(Ljava/lang/String;)V"⟩ ∈ WA := wa_of (wm3 (List.mem_of_getElem? (i := 91) rfl)) rfl
theorem w572 : Cond.instanceMethod ⟨"java/lang/Throwable", "<init>", "(Ljava/lang/String;)V"⟩ ∈ WA := wa_of (wm3 (List.mem_of_getElem? (i := 92) rfl)) rfl
theorem w573 : Cond.code ⟨"java/lang/Throwable", "<init>", "(Ljava/lang/String;)V"⟩ prog_27_method_2_code 2 (Option.none : Option Jvm.ClassFile.FieldType) ∈ WA := wa_of (wm3 (List.mem_of_getElem? (i := 93) rfl)) rfl
theorem w575 : Cond.fieldLink "java/lang/Throwable" 31 "java/lang/Throwable" "detailMessage" "Ljava/lang/String;" ∈ WA := wa_of (wm3 (List.mem_of_getElem? (i := 95) rfl)) rfl
theorem w576 : Cond.fieldLink "java/lang/Throwable" 7 "java/lang/Throwable" "cause" "Ljava/lang/Throwable;" ∈ WA := wa_of (wm3 (List.mem_of_getElem? (i := 96) rfl)) rfl
theorem w577 : Cond.fieldLink "java/lang/Throwable" 17 "java/lang/Throwable" "stackTrace" "[Ljava/lang/StackTraceElement;" ∈ WA := wa_of (wm3 (List.mem_of_getElem? (i := 97) rfl)) rfl
theorem w578 : Cond.fieldLink "java/lang/Throwable" 24 "java/lang/Throwable" "suppressedExceptions" "Ljava/util/List;" ∈ WA := wa_of (wm3 (List.mem_of_getElem? (i := 98) rfl)) rfl
theorem w587 : Cond.arrayClass ClassFile.FieldType.byte ∈ WA := wa_of (wm3 (List.mem_of_getElem? (i := 107) rfl)) rfl
theorem w588 : Cond.classLink RX10 77 "java/lang/IllegalStateException" ∈ WA := wa_of (wm3 (List.mem_of_getElem? (i := 108) rfl)) rfl
theorem w589 : Cond.instantiable "java/lang/IllegalStateException" 6 ∈ WA := wa_of (wm3 (List.mem_of_getElem? (i := 109) rfl)) rfl
theorem w591 : Cond.selects "java/lang/IllegalStateException" ⟨"java/lang/Throwable", "fillInStackTrace", "(I)Ljava/lang/Throwable;"⟩ ⟨"java/lang/Throwable", "fillInStackTrace", "(I)Ljava/lang/Throwable;"⟩ ∈ WA := wa_of (wm3 (List.mem_of_getElem? (i := 111) rfl)) rfl
theorem w598 : Cond.methodLink RX10 81 ⟨"java/lang/IllegalStateException", "<init>", "(Ljava/lang/String;)V"⟩ ∈ WA := wa_of (wm3 (List.mem_of_getElem? (i := 118) rfl)) rfl
theorem w599 : Cond.instanceMethod ⟨"java/lang/IllegalStateException", "<init>", "(Ljava/lang/String;)V"⟩ ∈ WA := wa_of (wm3 (List.mem_of_getElem? (i := 119) rfl)) rfl
theorem w600 : Cond.code ⟨"java/lang/IllegalStateException", "<init>", "(Ljava/lang/String;)V"⟩ prog_20_method_2_code 2 (Option.none : Option Jvm.ClassFile.FieldType) ∈ WA := wa_of (wm3 (List.mem_of_getElem? (i := 120) rfl)) rfl
theorem w601 : Cond.methodLink "java/lang/IllegalStateException" 7 ⟨"java/lang/RuntimeException", "<init>", "(Ljava/lang/String;)V"⟩ ∈ WA := wa_of (wm3 (List.mem_of_getElem? (i := 121) rfl)) rfl
theorem w604 : Cond.instantiable RX7 5 ∈ WA := wa_of (wm3 (List.mem_of_getElem? (i := 124) rfl)) rfl
theorem w605 : Cond.methodLink RX10 86 yX7_init ∈ WA := wa_of (wm3 (List.mem_of_getElem? (i := 125) rfl)) rfl
theorem w606 : Cond.instanceMethod yX7_init ∈ WA := wa_of (wm3 (List.mem_of_getElem? (i := 126) rfl)) rfl
theorem w607 : Cond.code yX7_init cX7_init 2 (Option.none : Option Jvm.ClassFile.FieldType) ∈ WA := wa_of (wm3 (List.mem_of_getElem? (i := 127) rfl)) rfl
theorem w608 : Cond.methodLink RX7 1 ⟨"java/lang/Object", "<init>", "()V"⟩ ∈ WA := wa_of (wm3 (List.mem_of_getElem? (i := 128) rfl)) rfl
theorem w609 : Cond.classLink RX7 7 RJx4a65c ∈ WA := wa_of (wm3 (List.mem_of_getElem? (i := 129) rfl)) rfl
theorem w610 : Cond.methodLink RX7 9 yJx4a65c_init_da8c8 ∈ WA := wa_of (wm3 (List.mem_of_getElem? (i := 130) rfl)) rfl
theorem w611 : Cond.classLink RX7 16 RX8 ∈ WA := wa_of (wm3 (List.mem_of_getElem? (i := 131) rfl)) rfl
theorem w613 : Cond.fieldLink RX7 31 "CellWindows$Statement" "addend" "I" ∈ WA := wa_of (wm3 (List.mem_of_getElem? (i := 133) rfl)) rfl
theorem w615 : Cond.fieldLink RX7 10 "CellWindows$Statement" "reads" "Ljava/util/ArrayList;" ∈ WA := wa_of (wm3 (List.mem_of_getElem? (i := 135) rfl)) rfl
theorem w620 : Cond.fieldLink RX7 19 "CellWindows$Statement" "window" "LCellWindows$Window;" ∈ WA := wa_of (wm3 (List.mem_of_getElem? (i := 140) rfl)) rfl
theorem w623 : Cond.fieldLink RX7 23 "CellWindows$Statement" "offset" "I" ∈ WA := wa_of (wm3 (List.mem_of_getElem? (i := 143) rfl)) rfl
theorem w627 : Cond.fieldLink RX7 27 "CellWindows$Statement" "lasting" "Z" ∈ WA := wa_of (wm3 (List.mem_of_getElem? (i := 147) rfl)) rfl
theorem w641 : Cond.methodLink RX10 89 yJx4a65c_add_9ea2d ∈ WA := wa_of (wm3 (List.mem_of_getElem? (i := 161) rfl)) rfl
theorem w642 : Cond.instanceMethod yJx4a65c_add_9ea2d ∈ WA := wa_of (wm3 (List.mem_of_getElem? (i := 162) rfl)) rfl
theorem w643 : Cond.selects RJx4a65c yJx4a65c_add_9ea2d yJx4a65c_add_9ea2d ∈ WA := wa_of (wm3 (List.mem_of_getElem? (i := 163) rfl)) rfl
theorem w644 : Cond.code yJx4a65c_add_9ea2d cJx4a65c_add_9ea2d 2 (Option.some Jvm.ClassFile.FieldType.boolean) ∈ WA := wa_of (wm3 (List.mem_of_getElem? (i := 164) rfl)) rfl
theorem w645 : Cond.methodLink RJx4a65c 131 yJx4a65c_add_72be8 ∈ WA := wa_of (wm3 (List.mem_of_getElem? (i := 165) rfl)) rfl
theorem w647 : Cond.instanceMethod yJx4a65c_add_72be8 ∈ WA := wa_of (wm3 (List.mem_of_getElem? (i := 167) rfl)) rfl
theorem w648 : Cond.code yJx4a65c_add_72be8 cJx4a65c_add_72be8 4 (Option.none : Option Jvm.ClassFile.FieldType) ∈ WA := wa_of (wm3 (List.mem_of_getElem? (i := 168) rfl)) rfl
theorem w649 : Cond.methodLink RJx4a65c 129 yJx4a65c_grow_d5877 ∈ WA := wa_of (wm3 (List.mem_of_getElem? (i := 169) rfl)) rfl
theorem w651 : Cond.instanceMethod yJx4a65c_grow_d5877 ∈ WA := wa_of (wm3 (List.mem_of_getElem? (i := 171) rfl)) rfl
theorem w652 : Cond.code yJx4a65c_grow_d5877 cJx4a65c_grow_d5877 1 (Option.some (Jvm.ClassFile.FieldType.array (Jvm.ClassFile.FieldType.object "java/lang/Object"))) ∈ WA := wa_of (wm3 (List.mem_of_getElem? (i := 172) rfl)) rfl
theorem w653 : Cond.methodLink RJx4a65c 69 yJx4a65c_grow_92f84 ∈ WA := wa_of (wm3 (List.mem_of_getElem? (i := 173) rfl)) rfl
theorem w655 : Cond.instanceMethod yJx4a65c_grow_92f84 ∈ WA := wa_of (wm3 (List.mem_of_getElem? (i := 175) rfl)) rfl
theorem w656 : Cond.code yJx4a65c_grow_92f84 cJx4a65c_grow_92f84 4 (Option.some (Jvm.ClassFile.FieldType.array (Jvm.ClassFile.FieldType.object "java/lang/Object"))) ∈ WA := wa_of (wm3 (List.mem_of_getElem? (i := 176) rfl)) rfl
theorem w657 : Cond.methodLink RJx4a65c 73 yJ8_newLength_cabcc ∈ WA := wa_of (wm3 (List.mem_of_getElem? (i := 177) rfl)) rfl
theorem w658 : Cond.static yJ8_newLength_cabcc ∈ WA := wa_of (wm3 (List.mem_of_getElem? (i := 178) rfl)) rfl
theorem w659 : Cond.code yJ8_newLength_cabcc cJ8_newLength_cabcc 4 (Option.some Jvm.ClassFile.FieldType.int) ∈ WA := wa_of (wm3 (List.mem_of_getElem? (i := 179) rfl)) rfl
theorem w660 : Cond.methodLink RJ8 194 yJ9_max_7cf53 ∈ WA := wa_of (wm3 (List.mem_of_getElem? (i := 180) rfl)) rfl
theorem w662 : Cond.methodLink RJ8 201 yJ8_hugeLength_7cf53 ∈ WA := wa_of (wm3 (List.mem_of_getElem? (i := 182) rfl)) rfl
theorem w663 : Cond.static yJ8_hugeLength_7cf53 ∈ WA := wa_of (wm3 (List.mem_of_getElem? (i := 183) rfl)) rfl
theorem w664 : Cond.code yJ8_hugeLength_7cf53 cJ8_hugeLength_7cf53 3 (Option.some Jvm.ClassFile.FieldType.int) ∈ WA := wa_of (wm3 (List.mem_of_getElem? (i := 184) rfl)) rfl
theorem w665 : Cond.methodLink RJx4a65c 66 yJ7_copyOf_1904c ∈ WA := wa_of (wm3 (List.mem_of_getElem? (i := 185) rfl)) rfl
theorem w666 : Cond.static yJ7_copyOf_1904c ∈ WA := wa_of (wm3 (List.mem_of_getElem? (i := 186) rfl)) rfl
theorem w667 : Cond.code yJ7_copyOf_1904c cJ7_copyOf_1904c 2 (Option.some (Jvm.ClassFile.FieldType.array (Jvm.ClassFile.FieldType.object "java/lang/Object"))) ∈ WA := wa_of (wm3 (List.mem_of_getElem? (i := 187) rfl)) rfl
theorem w668 : Cond.methodLink RJ7 86 ⟨"java/lang/Object", "getClass", "()Ljava/lang/Class;"⟩ ∈ WA := wa_of (wm3 (List.mem_of_getElem? (i := 188) rfl)) rfl
theorem w669 : Cond.instanceMethod ⟨"java/lang/Object", "getClass", "()Ljava/lang/Class;"⟩ ∈ WA := wa_of (wm3 (List.mem_of_getElem? (i := 189) rfl)) rfl
theorem w671 : Cond.selects RX10 ⟨"java/lang/Object", "getClass", "()Ljava/lang/Class;"⟩ ⟨"java/lang/Object", "getClass", "()Ljava/lang/Class;"⟩ ∈ WA := wa_of (wm3 (List.mem_of_getElem? (i := 191) rfl)) rfl
theorem w672 : Cond.selects RX1 ⟨"java/lang/Object", "getClass", "()Ljava/lang/Class;"⟩ ⟨"java/lang/Object", "getClass", "()Ljava/lang/Class;"⟩ ∈ WA := wa_of (wm3 (List.mem_of_getElem? (i := 192) rfl)) rfl
theorem w673 : Cond.selects RX2 ⟨"java/lang/Object", "getClass", "()Ljava/lang/Class;"⟩ ⟨"java/lang/Object", "getClass", "()Ljava/lang/Class;"⟩ ∈ WA := wa_of (wm3 (List.mem_of_getElem? (i := 193) rfl)) rfl
theorem w674 : Cond.selects RX3 ⟨"java/lang/Object", "getClass", "()Ljava/lang/Class;"⟩ ⟨"java/lang/Object", "getClass", "()Ljava/lang/Class;"⟩ ∈ WA := wa_of (wm3 (List.mem_of_getElem? (i := 194) rfl)) rfl
theorem w675 : Cond.selects RX4 ⟨"java/lang/Object", "getClass", "()Ljava/lang/Class;"⟩ ⟨"java/lang/Object", "getClass", "()Ljava/lang/Class;"⟩ ∈ WA := wa_of (wm3 (List.mem_of_getElem? (i := 195) rfl)) rfl
theorem w676 : Cond.selects RX5 ⟨"java/lang/Object", "getClass", "()Ljava/lang/Class;"⟩ ⟨"java/lang/Object", "getClass", "()Ljava/lang/Class;"⟩ ∈ WA := wa_of (wm3 (List.mem_of_getElem? (i := 196) rfl)) rfl
theorem w677 : Cond.selects RX6 ⟨"java/lang/Object", "getClass", "()Ljava/lang/Class;"⟩ ⟨"java/lang/Object", "getClass", "()Ljava/lang/Class;"⟩ ∈ WA := wa_of (wm3 (List.mem_of_getElem? (i := 197) rfl)) rfl
theorem w678 : Cond.selects RX7 ⟨"java/lang/Object", "getClass", "()Ljava/lang/Class;"⟩ ⟨"java/lang/Object", "getClass", "()Ljava/lang/Class;"⟩ ∈ WA := wa_of (wm3 (List.mem_of_getElem? (i := 198) rfl)) rfl
theorem w679 : Cond.selects RX8 ⟨"java/lang/Object", "getClass", "()Ljava/lang/Class;"⟩ ⟨"java/lang/Object", "getClass", "()Ljava/lang/Class;"⟩ ∈ WA := wa_of (wm3 (List.mem_of_getElem? (i := 199) rfl)) rfl
theorem w680 : Cond.selects RX9 ⟨"java/lang/Object", "getClass", "()Ljava/lang/Class;"⟩ ⟨"java/lang/Object", "getClass", "()Ljava/lang/Class;"⟩ ∈ WA := wa_of (wm3 (List.mem_of_getElem? (i := 200) rfl)) rfl
theorem w681 : Cond.selects "java/lang/IllegalArgumentException" ⟨"java/lang/Object", "getClass", "()Ljava/lang/Class;"⟩ ⟨"java/lang/Object", "getClass", "()Ljava/lang/Class;"⟩ ∈ WA := wa_of (wm3 (List.mem_of_getElem? (i := 201) rfl)) rfl
theorem w682 : Cond.selects "java/lang/IllegalStateException" ⟨"java/lang/Object", "getClass", "()Ljava/lang/Class;"⟩ ⟨"java/lang/Object", "getClass", "()Ljava/lang/Class;"⟩ ∈ WA := wa_of (wm3 (List.mem_of_getElem? (i := 202) rfl)) rfl
theorem w683 : Cond.selects "java/lang/IndexOutOfBoundsException" ⟨"java/lang/Object", "getClass", "()Ljava/lang/Class;"⟩ ⟨"java/lang/Object", "getClass", "()Ljava/lang/Class;"⟩ ∈ WA := wa_of (wm3 (List.mem_of_getElem? (i := 203) rfl)) rfl
theorem w684 : Cond.selects RJx4a65c ⟨"java/lang/Object", "getClass", "()Ljava/lang/Class;"⟩ ⟨"java/lang/Object", "getClass", "()Ljava/lang/Class;"⟩ ∈ WA := wa_of (wm3 (List.mem_of_getElem? (i := 204) rfl)) rfl
theorem w686 : Cond.methodLink RJ7 300 yJ7_copyOf_6403c ∈ WA := wa_of (wm3 (List.mem_of_getElem? (i := 206) rfl)) rfl
theorem w687 : Cond.static yJ7_copyOf_6403c ∈ WA := wa_of (wm3 (List.mem_of_getElem? (i := 207) rfl)) rfl
theorem w688 : Cond.code yJ7_copyOf_6403c cJ7_copyOf_6403c 4 (Option.some (Jvm.ClassFile.FieldType.array (Jvm.ClassFile.FieldType.object "java/lang/Object"))) ∈ WA := wa_of (wm3 (List.mem_of_getElem? (i := 208) rfl)) rfl
theorem w689 : Cond.classLink RJ7 110 "[Ljava/lang/Object;" ∈ WA := wa_of (wm3 (List.mem_of_getElem? (i := 209) rfl)) rfl
theorem w691 : Cond.classLink RJ7 2 "java/lang/Object" ∈ WA := wa_of (wm3 (List.mem_of_getElem? (i := 211) rfl)) rfl
theorem w692 : Cond.methodLink RJ7 304 yJ9_min_7cf53 ∈ WA := wa_of (wm3 (List.mem_of_getElem? (i := 212) rfl)) rfl
theorem w693 : Cond.static yJ9_min_7cf53 ∈ WA := wa_of (wm3 (List.mem_of_getElem? (i := 213) rfl)) rfl
theorem w694 : Cond.code yJ9_min_7cf53 cJ9_min_7cf53 2 (Option.some Jvm.ClassFile.FieldType.int) ∈ WA := wa_of (wm3 (List.mem_of_getElem? (i := 214) rfl)) rfl
theorem w695 : Cond.methodLink RJ7 150 ⟨"java/lang/System", "arraycopy", "(Ljava/lang/Object;ILjava/lang/Object;II)V"⟩ ∈ WA := wa_of (wm3 (List.mem_of_getElem? (i := 215) rfl)) rfl
theorem w696 : Cond.static ⟨"java/lang/System", "arraycopy", "(Ljava/lang/Object;ILjava/lang/Object;II)V"⟩ ∈ WA := wa_of (wm3 (List.mem_of_getElem? (i := 216) rfl)) rfl
theorem w698 : Cond.methodLink RJx4a65c 79 yJ9_max_7cf53 ∈ WA := wa_of (wm3 (List.mem_of_getElem? (i := 218) rfl)) rfl
theorem w699 : Cond.classLink RJx4a65c 7 "java/lang/Object" ∈ WA := wa_of (wm3 (List.mem_of_getElem? (i := 219) rfl)) rfl
theorem w700 : Cond.methodLink RL 14 yX10_addRead ∈ WA := wa_of (wm3 (List.mem_of_getElem? (i := 220) rfl)) rfl
theorem w701 : Cond.instanceMethod yX10_addRead ∈ WA := wa_of (wm3 (List.mem_of_getElem? (i := 221) rfl)) rfl
theorem w702 : Cond.selects RX10 yX10_addRead yX10_addRead ∈ WA := wa_of (wm3 (List.mem_of_getElem? (i := 222) rfl)) rfl
theorem w703 : Cond.code yX10_addRead cX10_addRead 7 (Option.some Jvm.ClassFile.FieldType.int) ∈ WA := wa_of (wm3 (List.mem_of_getElem? (i := 223) rfl)) rfl
theorem w704 : Cond.methodLink RX10 93 yX10_requireStatement ∈ WA := wa_of (wm3 (List.mem_of_getElem? (i := 224) rfl)) rfl
theorem w706 : Cond.instanceMethod yX10_requireStatement ∈ WA := wa_of (wm3 (List.mem_of_getElem? (i := 226) rfl)) rfl
theorem w707 : Cond.code yX10_requireStatement cX10_requireStatement 2 (Option.none : Option Jvm.ClassFile.FieldType) ∈ WA := wa_of (wm3 (List.mem_of_getElem? (i := 227) rfl)) rfl
theorem w708 : Cond.classLink RX10 138 "java/lang/IndexOutOfBoundsException" ∈ WA := wa_of (wm3 (List.mem_of_getElem? (i := 228) rfl)) rfl
theorem w709 : Cond.instantiable "java/lang/IndexOutOfBoundsException" 6 ∈ WA := wa_of (wm3 (List.mem_of_getElem? (i := 229) rfl)) rfl
theorem w711 : Cond.selects "java/lang/IndexOutOfBoundsException" ⟨"java/lang/Throwable", "fillInStackTrace", "(I)Ljava/lang/Throwable;"⟩ ⟨"java/lang/Throwable", "fillInStackTrace", "(I)Ljava/lang/Throwable;"⟩ ∈ WA := wa_of (wm3 (List.mem_of_getElem? (i := 231) rfl)) rfl
theorem w718 : Cond.methodLink RX10 142 ⟨"java/lang/IndexOutOfBoundsException", "<init>", "(Ljava/lang/String;)V"⟩ ∈ WA := wa_of (wm3 (List.mem_of_getElem? (i := 238) rfl)) rfl
theorem w719 : Cond.instanceMethod ⟨"java/lang/IndexOutOfBoundsException", "<init>", "(Ljava/lang/String;)V"⟩ ∈ WA := wa_of (wm3 (List.mem_of_getElem? (i := 239) rfl)) rfl
theorem w720 : Cond.code ⟨"java/lang/IndexOutOfBoundsException", "<init>", "(Ljava/lang/String;)V"⟩ prog_21_method_2_code 2 (Option.none : Option Jvm.ClassFile.FieldType) ∈ WA := wa_of (wm4 (List.mem_of_getElem? (i := 0) rfl)) rfl
theorem w721 : Cond.methodLink "java/lang/IndexOutOfBoundsException" 7 ⟨"java/lang/RuntimeException", "<init>", "(Ljava/lang/String;)V"⟩ ∈ WA := wa_of (wm4 (List.mem_of_getElem? (i := 1) rfl)) rfl
theorem w725 : Cond.classLink RX10 105 RX6 ∈ WA := wa_of (wm4 (List.mem_of_getElem? (i := 5) rfl)) rfl
theorem w726 : Cond.instantiable RX6 4 ∈ WA := wa_of (wm4 (List.mem_of_getElem? (i := 6) rfl)) rfl
theorem w727 : Cond.methodLink RX10 107 yX6_init ∈ WA := wa_of (wm4 (List.mem_of_getElem? (i := 7) rfl)) rfl
theorem w728 : Cond.instanceMethod yX6_init ∈ WA := wa_of (wm4 (List.mem_of_getElem? (i := 8) rfl)) rfl
theorem w729 : Cond.code yX6_init cX6_init 5 (Option.none : Option Jvm.ClassFile.FieldType) ∈ WA := wa_of (wm4 (List.mem_of_getElem? (i := 9) rfl)) rfl
theorem w730 : Cond.methodLink RX6 1 ⟨"java/lang/Object", "<init>", "()V"⟩ ∈ WA := wa_of (wm4 (List.mem_of_getElem? (i := 10) rfl)) rfl
theorem w731 : Cond.fieldLink RX6 7 "CellWindows$Read" "source" "I" ∈ WA := wa_of (wm4 (List.mem_of_getElem? (i := 11) rfl)) rfl
theorem w735 : Cond.fieldLink RX6 13 "CellWindows$Read" "factor" "I" ∈ WA := wa_of (wm4 (List.mem_of_getElem? (i := 15) rfl)) rfl
theorem w737 : Cond.fieldLink RX6 16 "CellWindows$Read" "rowsBack" "I" ∈ WA := wa_of (wm4 (List.mem_of_getElem? (i := 17) rfl)) rfl
theorem w741 : Cond.fieldLink RX6 19 "CellWindows$Read" "columnsBack" "I" ∈ WA := wa_of (wm4 (List.mem_of_getElem? (i := 21) rfl)) rfl
theorem w754 : Cond.methodLink RL 18 yX10_dropReads ∈ WA := wa_of (wm4 (List.mem_of_getElem? (i := 34) rfl)) rfl
theorem w755 : Cond.instanceMethod yX10_dropReads ∈ WA := wa_of (wm4 (List.mem_of_getElem? (i := 35) rfl)) rfl
theorem w756 : Cond.selects RX10 yX10_dropReads yX10_dropReads ∈ WA := wa_of (wm4 (List.mem_of_getElem? (i := 36) rfl)) rfl
theorem w757 : Cond.code yX10_dropReads cX10_dropReads 4 (Option.some Jvm.ClassFile.FieldType.int) ∈ WA := wa_of (wm4 (List.mem_of_getElem? (i := 37) rfl)) rfl
theorem w758 : Cond.methodLink RX10 110 yJx4a65c_clear_da8c8 ∈ WA := wa_of (wm4 (List.mem_of_getElem? (i := 38) rfl)) rfl
theorem w759 : Cond.instanceMethod yJx4a65c_clear_da8c8 ∈ WA := wa_of (wm4 (List.mem_of_getElem? (i := 39) rfl)) rfl
theorem w760 : Cond.selects RJx4a65c yJx4a65c_clear_da8c8 yJx4a65c_clear_da8c8 ∈ WA := wa_of (wm4 (List.mem_of_getElem? (i := 40) rfl)) rfl
theorem w761 : Cond.code yJx4a65c_clear_da8c8 cJx4a65c_clear_da8c8 4 (Option.none : Option Jvm.ClassFile.FieldType) ∈ WA := wa_of (wm4 (List.mem_of_getElem? (i := 41) rfl)) rfl
theorem w762 : Cond.methodLink RL 21 yX10_setLasting ∈ WA := wa_of (wm4 (List.mem_of_getElem? (i := 42) rfl)) rfl
theorem w763 : Cond.instanceMethod yX10_setLasting ∈ WA := wa_of (wm4 (List.mem_of_getElem? (i := 43) rfl)) rfl
theorem w764 : Cond.selects RX10 yX10_setLasting yX10_setLasting ∈ WA := wa_of (wm4 (List.mem_of_getElem? (i := 44) rfl)) rfl
theorem w765 : Cond.code yX10_setLasting cX10_setLasting 5 (Option.some Jvm.ClassFile.FieldType.boolean) ∈ WA := wa_of (wm4 (List.mem_of_getElem? (i := 45) rfl)) rfl
theorem w766 : Cond.methodLink RL 25 yX10_setField ∈ WA := wa_of (wm4 (List.mem_of_getElem? (i := 46) rfl)) rfl
theorem w767 : Cond.instanceMethod yX10_setField ∈ WA := wa_of (wm4 (List.mem_of_getElem? (i := 47) rfl)) rfl
theorem w768 : Cond.selects RX10 yX10_setField yX10_setField ∈ WA := wa_of (wm4 (List.mem_of_getElem? (i := 48) rfl)) rfl
theorem w769 : Cond.code yX10_setField cX10_setField 3 (Option.some Jvm.ClassFile.FieldType.int) ∈ WA := wa_of (wm4 (List.mem_of_getElem? (i := 49) rfl)) rfl
theorem w770 : Cond.methodLink RX10 117 yX5_spread ∈ WA := wa_of (wm4 (List.mem_of_getElem? (i := 50) rfl)) rfl
theorem w771 : Cond.instanceMethod yX5_spread ∈ WA := wa_of (wm4 (List.mem_of_getElem? (i := 51) rfl)) rfl
theorem w772 : Cond.selects RX5 yX5_spread yX5_spread ∈ WA := wa_of (wm4 (List.mem_of_getElem? (i := 52) rfl)) rfl
theorem w773 : Cond.code yX5_spread cX5_spread 3 (Option.none : Option Jvm.ClassFile.FieldType) ∈ WA := wa_of (wm4 (List.mem_of_getElem? (i := 53) rfl)) rfl
theorem w774 : Cond.methodLink RL 29 yX10_setSchedule ∈ WA := wa_of (wm4 (List.mem_of_getElem? (i := 54) rfl)) rfl
theorem w775 : Cond.instanceMethod yX10_setSchedule ∈ WA := wa_of (wm4 (List.mem_of_getElem? (i := 55) rfl)) rfl
theorem w776 : Cond.selects RX10 yX10_setSchedule yX10_setSchedule ∈ WA := wa_of (wm4 (List.mem_of_getElem? (i := 56) rfl)) rfl
theorem w777 : Cond.code yX10_setSchedule cX10_setSchedule 3 (Option.some Jvm.ClassFile.FieldType.boolean) ∈ WA := wa_of (wm4 (List.mem_of_getElem? (i := 57) rfl)) rfl
theorem w778 : Cond.methodLink RX10 124 yX10_requireWeights ∈ WA := wa_of (wm4 (List.mem_of_getElem? (i := 58) rfl)) rfl
theorem w779 : Cond.static yX10_requireWeights ∈ WA := wa_of (wm4 (List.mem_of_getElem? (i := 59) rfl)) rfl
theorem w780 : Cond.code yX10_requireWeights cX10_requireWeights 2 (Option.none : Option Jvm.ClassFile.FieldType) ∈ WA := wa_of (wm4 (List.mem_of_getElem? (i := 60) rfl)) rfl
theorem w781 : Cond.methodLink RX10 127 yX10_isAllowed ∈ WA := wa_of (wm4 (List.mem_of_getElem? (i := 61) rfl)) rfl
theorem w782 : Cond.methodLink RL 33 yX10_setOffset ∈ WA := wa_of (wm4 (List.mem_of_getElem? (i := 62) rfl)) rfl
theorem w783 : Cond.instanceMethod yX10_setOffset ∈ WA := wa_of (wm4 (List.mem_of_getElem? (i := 63) rfl)) rfl
theorem w784 : Cond.selects RX10 yX10_setOffset yX10_setOffset ∈ WA := wa_of (wm4 (List.mem_of_getElem? (i := 64) rfl)) rfl
theorem w785 : Cond.code yX10_setOffset cX10_setOffset 3 (Option.some Jvm.ClassFile.FieldType.boolean) ∈ WA := wa_of (wm4 (List.mem_of_getElem? (i := 65) rfl)) rfl
theorem w786 : Cond.methodLink RL 36 yX10_keepRest ∈ WA := wa_of (wm4 (List.mem_of_getElem? (i := 66) rfl)) rfl
theorem w787 : Cond.instanceMethod yX10_keepRest ∈ WA := wa_of (wm4 (List.mem_of_getElem? (i := 67) rfl)) rfl
theorem w788 : Cond.selects RX10 yX10_keepRest yX10_keepRest ∈ WA := wa_of (wm4 (List.mem_of_getElem? (i := 68) rfl)) rfl
theorem w789 : Cond.code yX10_keepRest cX10_keepRest 3 (Option.some Jvm.ClassFile.FieldType.int) ∈ WA := wa_of (wm4 (List.mem_of_getElem? (i := 69) rfl)) rfl
theorem w790 : Cond.methodLink RX10 197 yX8_becomeRest ∈ WA := wa_of (wm4 (List.mem_of_getElem? (i := 70) rfl)) rfl
theorem w791 : Cond.methodLink RL 39 yX10_keepTwoRests ∈ WA := wa_of (wm4 (List.mem_of_getElem? (i := 71) rfl)) rfl
theorem w792 : Cond.instanceMethod yX10_keepTwoRests ∈ WA := wa_of (wm4 (List.mem_of_getElem? (i := 72) rfl)) rfl
theorem w793 : Cond.selects RX10 yX10_keepTwoRests yX10_keepTwoRests ∈ WA := wa_of (wm4 (List.mem_of_getElem? (i := 73) rfl)) rfl
theorem w794 : Cond.code yX10_keepTwoRests cX10_keepTwoRests 4 (Option.some Jvm.ClassFile.FieldType.int) ∈ WA := wa_of (wm4 (List.mem_of_getElem? (i := 74) rfl)) rfl
theorem w795 : Cond.methodLink RX10 200 yX8_becomeTwoRests ∈ WA := wa_of (wm4 (List.mem_of_getElem? (i := 75) rfl)) rfl
theorem w796 : Cond.methodLink RL 43 yX10_keepSlant ∈ WA := wa_of (wm4 (List.mem_of_getElem? (i := 76) rfl)) rfl
theorem w797 : Cond.instanceMethod yX10_keepSlant ∈ WA := wa_of (wm4 (List.mem_of_getElem? (i := 77) rfl)) rfl
theorem w798 : Cond.selects RX10 yX10_keepSlant yX10_keepSlant ∈ WA := wa_of (wm4 (List.mem_of_getElem? (i := 78) rfl)) rfl
theorem w799 : Cond.code yX10_keepSlant cX10_keepSlant 4 (Option.some Jvm.ClassFile.FieldType.int) ∈ WA := wa_of (wm4 (List.mem_of_getElem? (i := 79) rfl)) rfl
theorem w800 : Cond.methodLink RX10 203 yX8_becomeSlant ∈ WA := wa_of (wm4 (List.mem_of_getElem? (i := 80) rfl)) rfl
theorem w801 : Cond.methodLink RL 46 yX10_bestRoom ∈ WA := wa_of (wm4 (List.mem_of_getElem? (i := 81) rfl)) rfl
theorem w802 : Cond.instanceMethod yX10_bestRoom ∈ WA := wa_of (wm4 (List.mem_of_getElem? (i := 82) rfl)) rfl
theorem w803 : Cond.selects RX10 yX10_bestRoom yX10_bestRoom ∈ WA := wa_of (wm4 (List.mem_of_getElem? (i := 83) rfl)) rfl
theorem w804 : Cond.code yX10_bestRoom cX10_bestRoom 1 (Option.some Jvm.ClassFile.FieldType.int) ∈ WA := wa_of (wm4 (List.mem_of_getElem? (i := 84) rfl)) rfl
theorem w805 : Cond.methodLink RX10 268 yX10_findBest ∈ WA := wa_of (wm4 (List.mem_of_getElem? (i := 85) rfl)) rfl
theorem w807 : Cond.instanceMethod yX10_findBest ∈ WA := wa_of (wm4 (List.mem_of_getElem? (i := 87) rfl)) rfl
theorem w808 : Cond.code yX10_findBest cX10_findBest 3 (Option.none : Option Jvm.ClassFile.FieldType) ∈ WA := wa_of (wm4 (List.mem_of_getElem? (i := 88) rfl)) rfl
theorem w809 : Cond.methodLink RX10 311 yX10_leastRoomWith ∈ WA := wa_of (wm4 (List.mem_of_getElem? (i := 89) rfl)) rfl
theorem w811 : Cond.instanceMethod yX10_leastRoomWith ∈ WA := wa_of (wm4 (List.mem_of_getElem? (i := 91) rfl)) rfl
theorem w812 : Cond.code yX10_leastRoomWith cX10_leastRoomWith 5 (Option.some Jvm.ClassFile.FieldType.int) ∈ WA := wa_of (wm4 (List.mem_of_getElem? (i := 92) rfl)) rfl
theorem w813 : Cond.methodLink RX10 314 yX1_offer ∈ WA := wa_of (wm4 (List.mem_of_getElem? (i := 93) rfl)) rfl
theorem w814 : Cond.instanceMethod yX1_offer ∈ WA := wa_of (wm4 (List.mem_of_getElem? (i := 94) rfl)) rfl
theorem w815 : Cond.selects RX1 yX1_offer yX1_offer ∈ WA := wa_of (wm4 (List.mem_of_getElem? (i := 95) rfl)) rfl
theorem w816 : Cond.code yX1_offer cX1_offer 4 (Option.none : Option Jvm.ClassFile.FieldType) ∈ WA := wa_of (wm4 (List.mem_of_getElem? (i := 96) rfl)) rfl
theorem w818 : Cond.methodLink RL 50 yX10_bestRowWeight ∈ WA := wa_of (wm4 (List.mem_of_getElem? (i := 98) rfl)) rfl
theorem w819 : Cond.instanceMethod yX10_bestRowWeight ∈ WA := wa_of (wm4 (List.mem_of_getElem? (i := 99) rfl)) rfl
theorem w820 : Cond.selects RX10 yX10_bestRowWeight yX10_bestRowWeight ∈ WA := wa_of (wm4 (List.mem_of_getElem? (i := 100) rfl)) rfl
theorem w821 : Cond.code yX10_bestRowWeight cX10_bestRowWeight 1 (Option.some Jvm.ClassFile.FieldType.int) ∈ WA := wa_of (wm4 (List.mem_of_getElem? (i := 101) rfl)) rfl
theorem w822 : Cond.methodLink RL 53 yX10_bestColumnWeight ∈ WA := wa_of (wm4 (List.mem_of_getElem? (i := 102) rfl)) rfl
theorem w823 : Cond.instanceMethod yX10_bestColumnWeight ∈ WA := wa_of (wm4 (List.mem_of_getElem? (i := 103) rfl)) rfl
theorem w824 : Cond.selects RX10 yX10_bestColumnWeight yX10_bestColumnWeight ∈ WA := wa_of (wm4 (List.mem_of_getElem? (i := 104) rfl)) rfl
theorem w825 : Cond.code yX10_bestColumnWeight cX10_bestColumnWeight 1 (Option.some Jvm.ClassFile.FieldType.int) ∈ WA := wa_of (wm4 (List.mem_of_getElem? (i := 105) rfl)) rfl
theorem w826 : Cond.methodLink RL 56 yX10_stepOf ∈ WA := wa_of (wm4 (List.mem_of_getElem? (i := 106) rfl)) rfl
theorem w827 : Cond.instanceMethod yX10_stepOf ∈ WA := wa_of (wm4 (List.mem_of_getElem? (i := 107) rfl)) rfl
theorem w828 : Cond.selects RX10 yX10_stepOf yX10_stepOf ∈ WA := wa_of (wm4 (List.mem_of_getElem? (i := 108) rfl)) rfl
theorem w829 : Cond.code yX10_stepOf cX10_stepOf 5 (Option.some Jvm.ClassFile.FieldType.int) ∈ WA := wa_of (wm4 (List.mem_of_getElem? (i := 109) rfl)) rfl
theorem w830 : Cond.methodLink RX10 150 yX10_requireCell ∈ WA := wa_of (wm4 (List.mem_of_getElem? (i := 110) rfl)) rfl
theorem w832 : Cond.instanceMethod yX10_requireCell ∈ WA := wa_of (wm4 (List.mem_of_getElem? (i := 112) rfl)) rfl
theorem w833 : Cond.code yX10_requireCell cX10_requireCell 4 (Option.some Jvm.ClassFile.FieldType.int) ∈ WA := wa_of (wm4 (List.mem_of_getElem? (i := 113) rfl)) rfl
theorem w834 : Cond.methodLink RX10 216 yX10_requirePoint ∈ WA := wa_of (wm4 (List.mem_of_getElem? (i := 114) rfl)) rfl
theorem w836 : Cond.instanceMethod yX10_requirePoint ∈ WA := wa_of (wm4 (List.mem_of_getElem? (i := 116) rfl)) rfl
theorem w837 : Cond.code yX10_requirePoint cX10_requirePoint 3 (Option.none : Option Jvm.ClassFile.FieldType) ∈ WA := wa_of (wm4 (List.mem_of_getElem? (i := 117) rfl)) rfl
theorem w838 : Cond.methodLink RX10 282 yX5_hasPoint ∈ WA := wa_of (wm4 (List.mem_of_getElem? (i := 118) rfl)) rfl
theorem w840 : Cond.methodLink RX10 287 yX5_cellOf ∈ WA := wa_of (wm4 (List.mem_of_getElem? (i := 120) rfl)) rfl
theorem w841 : Cond.methodLink RL 59 yX10_isReadInOrder ∈ WA := wa_of (wm4 (List.mem_of_getElem? (i := 121) rfl)) rfl
theorem w842 : Cond.instanceMethod yX10_isReadInOrder ∈ WA := wa_of (wm4 (List.mem_of_getElem? (i := 122) rfl)) rfl
theorem w843 : Cond.selects RX10 yX10_isReadInOrder yX10_isReadInOrder ∈ WA := wa_of (wm4 (List.mem_of_getElem? (i := 123) rfl)) rfl
theorem w844 : Cond.code yX10_isReadInOrder cX10_isReadInOrder 4 (Option.some Jvm.ClassFile.FieldType.boolean) ∈ WA := wa_of (wm4 (List.mem_of_getElem? (i := 124) rfl)) rfl
theorem w846 : Cond.methodLink RX10 143 yX5_comesLater ∈ WA := wa_of (wm4 (List.mem_of_getElem? (i := 126) rfl)) rfl
theorem w847 : Cond.methodLink RL 62 yX10_liveAt ∈ WA := wa_of (wm4 (List.mem_of_getElem? (i := 127) rfl)) rfl
theorem w848 : Cond.instanceMethod yX10_liveAt ∈ WA := wa_of (wm4 (List.mem_of_getElem? (i := 128) rfl)) rfl
theorem w849 : Cond.selects RX10 yX10_liveAt yX10_liveAt ∈ WA := wa_of (wm4 (List.mem_of_getElem? (i := 129) rfl)) rfl
theorem w850 : Cond.code yX10_liveAt cX10_liveAt 2 (Option.some Jvm.ClassFile.FieldType.int) ∈ WA := wa_of (wm4 (List.mem_of_getElem? (i := 130) rfl)) rfl
theorem w851 : Cond.methodLink RX10 162 yX10_requireStep ∈ WA := wa_of (wm4 (List.mem_of_getElem? (i := 131) rfl)) rfl
theorem w853 : Cond.instanceMethod yX10_requireStep ∈ WA := wa_of (wm4 (List.mem_of_getElem? (i := 133) rfl)) rfl
theorem w854 : Cond.code yX10_requireStep cX10_requireStep 2 (Option.none : Option Jvm.ClassFile.FieldType) ∈ WA := wa_of (wm4 (List.mem_of_getElem? (i := 134) rfl)) rfl
theorem w856 : Cond.methodLink RX10 178 yX9_countLive ∈ WA := wa_of (wm4 (List.mem_of_getElem? (i := 136) rfl)) rfl
theorem w857 : Cond.instanceMethod yX9_countLive ∈ WA := wa_of (wm4 (List.mem_of_getElem? (i := 137) rfl)) rfl
theorem w858 : Cond.selects RX9 yX9_countLive yX9_countLive ∈ WA := wa_of (wm4 (List.mem_of_getElem? (i := 138) rfl)) rfl
theorem w859 : Cond.code yX9_countLive cX9_countLive 4 (Option.some Jvm.ClassFile.FieldType.int) ∈ WA := wa_of (wm4 (List.mem_of_getElem? (i := 139) rfl)) rfl
theorem w860 : Cond.methodLink RL 65 yX10_leastJointRest ∈ WA := wa_of (wm4 (List.mem_of_getElem? (i := 140) rfl)) rfl
theorem w861 : Cond.instanceMethod yX10_leastJointRest ∈ WA := wa_of (wm4 (List.mem_of_getElem? (i := 141) rfl)) rfl
theorem w862 : Cond.selects RX10 yX10_leastJointRest yX10_leastJointRest ∈ WA := wa_of (wm4 (List.mem_of_getElem? (i := 142) rfl)) rfl
theorem w863 : Cond.code yX10_leastJointRest cX10_leastJointRest 3 (Option.some Jvm.ClassFile.FieldType.int) ∈ WA := wa_of (wm4 (List.mem_of_getElem? (i := 143) rfl)) rfl
theorem w864 : Cond.methodLink RL 68 yX10_keepWhole ∈ WA := wa_of (wm4 (List.mem_of_getElem? (i := 144) rfl)) rfl
theorem w865 : Cond.instanceMethod yX10_keepWhole ∈ WA := wa_of (wm4 (List.mem_of_getElem? (i := 145) rfl)) rfl
theorem w866 : Cond.selects RX10 yX10_keepWhole yX10_keepWhole ∈ WA := wa_of (wm4 (List.mem_of_getElem? (i := 146) rfl)) rfl
theorem w867 : Cond.code yX10_keepWhole cX10_keepWhole 2 (Option.some Jvm.ClassFile.FieldType.int) ∈ WA := wa_of (wm4 (List.mem_of_getElem? (i := 147) rfl)) rfl
theorem w868 : Cond.methodLink RL 206 yL_steps ∈ WA := wa_of (wm4 (List.mem_of_getElem? (i := 148) rfl)) rfl
theorem w869 : Cond.static yL_steps ∈ WA := wa_of (wm4 (List.mem_of_getElem? (i := 149) rfl)) rfl
theorem w870 : Cond.code yL_steps cL_steps 7 (Option.none : Option Jvm.ClassFile.FieldType) ∈ WA := wa_of (wm4 (List.mem_of_getElem? (i := 150) rfl)) rfl
theorem w871 : Cond.methodLink RL 77 yL_points ∈ WA := wa_of (wm4 (List.mem_of_getElem? (i := 151) rfl)) rfl
theorem w872 : Cond.static yL_points ∈ WA := wa_of (wm4 (List.mem_of_getElem? (i := 152) rfl)) rfl
theorem w873 : Cond.code yL_points cL_points 1 (Option.some Jvm.ClassFile.FieldType.int) ∈ WA := wa_of (wm4 (List.mem_of_getElem? (i := 153) rfl)) rfl
theorem w874 : Cond.methodLink RL 83 yL_time ∈ WA := wa_of (wm4 (List.mem_of_getElem? (i := 154) rfl)) rfl
theorem w875 : Cond.static yL_time ∈ WA := wa_of (wm4 (List.mem_of_getElem? (i := 155) rfl)) rfl
theorem w876 : Cond.code yL_time cL_time 4 (Option.some Jvm.ClassFile.FieldType.int) ∈ WA := wa_of (wm4 (List.mem_of_getElem? (i := 156) rfl)) rfl
theorem w877 : Cond.methodLink RL 209 yL_ends ∈ WA := wa_of (wm4 (List.mem_of_getElem? (i := 157) rfl)) rfl
theorem w878 : Cond.static yL_ends ∈ WA := wa_of (wm4 (List.mem_of_getElem? (i := 158) rfl)) rfl
theorem w879 : Cond.code yL_ends cL_ends 10 (Option.none : Option Jvm.ClassFile.FieldType) ∈ WA := wa_of (wm4 (List.mem_of_getElem? (i := 159) rfl)) rfl
theorem w880 : Cond.methodLink RL 87 yL_wanted ∈ WA := wa_of (wm4 (List.mem_of_getElem? (i := 160) rfl)) rfl
theorem w881 : Cond.static yL_wanted ∈ WA := wa_of (wm4 (List.mem_of_getElem? (i := 161) rfl)) rfl
theorem w882 : Cond.code yL_wanted cL_wanted 6 (Option.some Jvm.ClassFile.FieldType.int) ∈ WA := wa_of (wm4 (List.mem_of_getElem? (i := 162) rfl)) rfl
theorem w883 : Cond.methodLink RL 233 yL_areLives ∈ WA := wa_of (wm4 (List.mem_of_getElem? (i := 163) rfl)) rfl
theorem w884 : Cond.static yL_areLives ∈ WA := wa_of (wm4 (List.mem_of_getElem? (i := 164) rfl)) rfl
theorem w885 : Cond.code yL_areLives cL_areLives 19 (Option.some Jvm.ClassFile.FieldType.boolean) ∈ WA := wa_of (wm4 (List.mem_of_getElem? (i := 165) rfl)) rfl
theorem w886 : Cond.methodLink RL 114 yL_isAllowed ∈ WA := wa_of (wm4 (List.mem_of_getElem? (i := 166) rfl)) rfl
theorem w887 : Cond.static yL_isAllowed ∈ WA := wa_of (wm4 (List.mem_of_getElem? (i := 167) rfl)) rfl
theorem w888 : Cond.code yL_isAllowed cL_isAllowed 7 (Option.some Jvm.ClassFile.FieldType.boolean) ∈ WA := wa_of (wm4 (List.mem_of_getElem? (i := 168) rfl)) rfl
theorem w889 : Cond.methodLink RL 91 yL_isInOrder ∈ WA := wa_of (wm4 (List.mem_of_getElem? (i := 169) rfl)) rfl
theorem w890 : Cond.static yL_isInOrder ∈ WA := wa_of (wm4 (List.mem_of_getElem? (i := 170) rfl)) rfl
theorem w891 : Cond.code yL_isInOrder cL_isInOrder 9 (Option.some Jvm.ClassFile.FieldType.boolean) ∈ WA := wa_of (wm4 (List.mem_of_getElem? (i := 171) rfl)) rfl
theorem w892 : Cond.methodLink RL 99 yL_inConflict ∈ WA := wa_of (wm4 (List.mem_of_getElem? (i := 172) rfl)) rfl
theorem w893 : Cond.static yL_inConflict ∈ WA := wa_of (wm4 (List.mem_of_getElem? (i := 173) rfl)) rfl
theorem w894 : Cond.code yL_inConflict cL_inConflict 6 (Option.some Jvm.ClassFile.FieldType.boolean) ∈ WA := wa_of (wm4 (List.mem_of_getElem? (i := 174) rfl)) rfl
theorem w895 : Cond.methodLink RL 124 yX10_mostLiveOf ∈ WA := wa_of (wm4 (List.mem_of_getElem? (i := 175) rfl)) rfl
theorem w896 : Cond.instanceMethod yX10_mostLiveOf ∈ WA := wa_of (wm4 (List.mem_of_getElem? (i := 176) rfl)) rfl
theorem w897 : Cond.selects RX10 yX10_mostLiveOf yX10_mostLiveOf ∈ WA := wa_of (wm4 (List.mem_of_getElem? (i := 177) rfl)) rfl
theorem w898 : Cond.code yX10_mostLiveOf cX10_mostLiveOf 2 (Option.some Jvm.ClassFile.FieldType.int) ∈ WA := wa_of (wm4 (List.mem_of_getElem? (i := 178) rfl)) rfl
theorem w899 : Cond.methodLink RX10 171 yX5_firstCell ∈ WA := wa_of (wm4 (List.mem_of_getElem? (i := 179) rfl)) rfl
theorem w900 : Cond.methodLink RL 127 yX10_conflictPairs ∈ WA := wa_of (wm4 (List.mem_of_getElem? (i := 180) rfl)) rfl
theorem w901 : Cond.instanceMethod yX10_conflictPairs ∈ WA := wa_of (wm4 (List.mem_of_getElem? (i := 181) rfl)) rfl
theorem w902 : Cond.selects RX10 yX10_conflictPairs yX10_conflictPairs ∈ WA := wa_of (wm4 (List.mem_of_getElem? (i := 182) rfl)) rfl
theorem w903 : Cond.code yX10_conflictPairs cX10_conflictPairs 5 (Option.some Jvm.ClassFile.FieldType.int) ∈ WA := wa_of (wm4 (List.mem_of_getElem? (i := 183) rfl)) rfl
theorem w904 : Cond.methodLink RX10 185 yX9_countConflicts ∈ WA := wa_of (wm4 (List.mem_of_getElem? (i := 184) rfl)) rfl
theorem w905 : Cond.instanceMethod yX9_countConflicts ∈ WA := wa_of (wm4 (List.mem_of_getElem? (i := 185) rfl)) rfl
theorem w906 : Cond.selects RX9 yX9_countConflicts yX9_countConflicts ∈ WA := wa_of (wm4 (List.mem_of_getElem? (i := 186) rfl)) rfl
theorem w907 : Cond.code yX9_countConflicts cX9_countConflicts 6 (Option.some Jvm.ClassFile.FieldType.int) ∈ WA := wa_of (wm4 (List.mem_of_getElem? (i := 187) rfl)) rfl
theorem w908 : Cond.methodLink RX9 132 yX9_inConflict ∈ WA := wa_of (wm4 (List.mem_of_getElem? (i := 188) rfl)) rfl
theorem w909 : Cond.methodLink RL 130 yX10_conflictsOf ∈ WA := wa_of (wm4 (List.mem_of_getElem? (i := 189) rfl)) rfl
theorem w910 : Cond.instanceMethod yX10_conflictsOf ∈ WA := wa_of (wm4 (List.mem_of_getElem? (i := 190) rfl)) rfl
theorem w911 : Cond.selects RX10 yX10_conflictsOf yX10_conflictsOf ∈ WA := wa_of (wm4 (List.mem_of_getElem? (i := 191) rfl)) rfl
theorem w912 : Cond.code yX10_conflictsOf cX10_conflictsOf 6 (Option.some Jvm.ClassFile.FieldType.int) ∈ WA := wa_of (wm4 (List.mem_of_getElem? (i := 192) rfl)) rfl
theorem w913 : Cond.methodLink RL 134 yX10_statementAt ∈ WA := wa_of (wm4 (List.mem_of_getElem? (i := 193) rfl)) rfl
theorem w914 : Cond.instanceMethod yX10_statementAt ∈ WA := wa_of (wm4 (List.mem_of_getElem? (i := 194) rfl)) rfl
theorem w915 : Cond.selects RX10 yX10_statementAt yX10_statementAt ∈ WA := wa_of (wm4 (List.mem_of_getElem? (i := 195) rfl)) rfl
theorem w916 : Cond.code yX10_statementAt cX10_statementAt 2 (Option.some Jvm.ClassFile.FieldType.int) ∈ WA := wa_of (wm4 (List.mem_of_getElem? (i := 196) rfl)) rfl
theorem w917 : Cond.methodLink RL 137 yX10_pointAt ∈ WA := wa_of (wm4 (List.mem_of_getElem? (i := 197) rfl)) rfl
theorem w918 : Cond.instanceMethod yX10_pointAt ∈ WA := wa_of (wm4 (List.mem_of_getElem? (i := 198) rfl)) rfl
theorem w919 : Cond.selects RX10 yX10_pointAt yX10_pointAt ∈ WA := wa_of (wm4 (List.mem_of_getElem? (i := 199) rfl)) rfl
theorem w920 : Cond.code yX10_pointAt cX10_pointAt 3 (Option.some Jvm.ClassFile.FieldType.int) ∈ WA := wa_of (wm4 (List.mem_of_getElem? (i := 200) rfl)) rfl
theorem w921 : Cond.methodLink RL 140 yX10_endOf ∈ WA := wa_of (wm4 (List.mem_of_getElem? (i := 201) rfl)) rfl
theorem w922 : Cond.instanceMethod yX10_endOf ∈ WA := wa_of (wm4 (List.mem_of_getElem? (i := 202) rfl)) rfl
theorem w923 : Cond.selects RX10 yX10_endOf yX10_endOf ∈ WA := wa_of (wm4 (List.mem_of_getElem? (i := 203) rfl)) rfl
theorem w924 : Cond.code yX10_endOf cX10_endOf 5 (Option.some Jvm.ClassFile.FieldType.int) ∈ WA := wa_of (wm4 (List.mem_of_getElem? (i := 204) rfl)) rfl
theorem w925 : Cond.methodLink RL 237 yL_areWindows ∈ WA := wa_of (wm4 (List.mem_of_getElem? (i := 205) rfl)) rfl
theorem w926 : Cond.static yL_areWindows ∈ WA := wa_of (wm4 (List.mem_of_getElem? (i := 206) rfl)) rfl
theorem w927 : Cond.code yL_areWindows cL_areWindows 14 (Option.some Jvm.ClassFile.FieldType.boolean) ∈ WA := wa_of (wm4 (List.mem_of_getElem? (i := 207) rfl)) rfl
theorem w928 : Cond.methodLink RL 143 yX10_windowSize ∈ WA := wa_of (wm4 (List.mem_of_getElem? (i := 208) rfl)) rfl
theorem w929 : Cond.instanceMethod yX10_windowSize ∈ WA := wa_of (wm4 (List.mem_of_getElem? (i := 209) rfl)) rfl
theorem w930 : Cond.selects RX10 yX10_windowSize yX10_windowSize ∈ WA := wa_of (wm4 (List.mem_of_getElem? (i := 210) rfl)) rfl
theorem w931 : Cond.code yX10_windowSize cX10_windowSize 2 (Option.some Jvm.ClassFile.FieldType.int) ∈ WA := wa_of (wm4 (List.mem_of_getElem? (i := 211) rfl)) rfl
theorem w932 : Cond.methodLink RL 146 yX10_placeOf ∈ WA := wa_of (wm4 (List.mem_of_getElem? (i := 212) rfl)) rfl
theorem w933 : Cond.instanceMethod yX10_placeOf ∈ WA := wa_of (wm4 (List.mem_of_getElem? (i := 213) rfl)) rfl
theorem w934 : Cond.selects RX10 yX10_placeOf yX10_placeOf ∈ WA := wa_of (wm4 (List.mem_of_getElem? (i := 214) rfl)) rfl
theorem w935 : Cond.code yX10_placeOf cX10_placeOf 4 (Option.some Jvm.ClassFile.FieldType.int) ∈ WA := wa_of (wm4 (List.mem_of_getElem? (i := 215) rfl)) rfl
theorem w936 : Cond.methodLink RX10 222 yX8_placeFor ∈ WA := wa_of (wm4 (List.mem_of_getElem? (i := 216) rfl)) rfl
theorem w937 : Cond.methodLink RL 95 yL_place ∈ WA := wa_of (wm4 (List.mem_of_getElem? (i := 217) rfl)) rfl
theorem w938 : Cond.static yL_place ∈ WA := wa_of (wm4 (List.mem_of_getElem? (i := 218) rfl)) rfl
theorem w939 : Cond.code yL_place cL_place 8 (Option.some Jvm.ClassFile.FieldType.int) ∈ WA := wa_of (wm4 (List.mem_of_getElem? (i := 219) rfl)) rfl
theorem w940 : Cond.methodLink RL 149 yX10_isRight ∈ WA := wa_of (wm4 (List.mem_of_getElem? (i := 220) rfl)) rfl
theorem w941 : Cond.instanceMethod yX10_isRight ∈ WA := wa_of (wm4 (List.mem_of_getElem? (i := 221) rfl)) rfl
theorem w942 : Cond.selects RX10 yX10_isRight yX10_isRight ∈ WA := wa_of (wm4 (List.mem_of_getElem? (i := 222) rfl)) rfl
theorem w943 : Cond.code yX10_isRight cX10_isRight 2 (Option.some Jvm.ClassFile.FieldType.boolean) ∈ WA := wa_of (wm4 (List.mem_of_getElem? (i := 223) rfl)) rfl
theorem w944 : Cond.methodLink RX10 225 yX2_areKeptApart ∈ WA := wa_of (wm4 (List.mem_of_getElem? (i := 224) rfl)) rfl
theorem w945 : Cond.methodLink RL 103 yL_isRight ∈ WA := wa_of (wm4 (List.mem_of_getElem? (i := 225) rfl)) rfl
theorem w946 : Cond.static yL_isRight ∈ WA := wa_of (wm4 (List.mem_of_getElem? (i := 226) rfl)) rfl
theorem w947 : Cond.code yL_isRight cL_isRight 12 (Option.some Jvm.ClassFile.FieldType.boolean) ∈ WA := wa_of (wm4 (List.mem_of_getElem? (i := 227) rfl)) rfl
theorem w948 : Cond.methodLink RL 155 yL_rest ∈ WA := wa_of (wm4 (List.mem_of_getElem? (i := 228) rfl)) rfl
theorem w949 : Cond.static yL_rest ∈ WA := wa_of (wm4 (List.mem_of_getElem? (i := 229) rfl)) rfl
theorem w950 : Cond.code yL_rest cL_rest 5 (Option.some Jvm.ClassFile.FieldType.int) ∈ WA := wa_of (wm4 (List.mem_of_getElem? (i := 230) rfl)) rfl
theorem w951 : Cond.methodLink RL 159 yL_two ∈ WA := wa_of (wm4 (List.mem_of_getElem? (i := 231) rfl)) rfl
theorem w952 : Cond.static yL_two ∈ WA := wa_of (wm4 (List.mem_of_getElem? (i := 232) rfl)) rfl
theorem w953 : Cond.code yL_two cL_two 6 (Option.some Jvm.ClassFile.FieldType.int) ∈ WA := wa_of (wm4 (List.mem_of_getElem? (i := 233) rfl)) rfl
theorem w954 : Cond.methodLink RL 162 yL_slant ∈ WA := wa_of (wm4 (List.mem_of_getElem? (i := 234) rfl)) rfl
theorem w955 : Cond.static yL_slant ∈ WA := wa_of (wm4 (List.mem_of_getElem? (i := 235) rfl)) rfl
theorem w956 : Cond.code yL_slant cL_slant 6 (Option.some Jvm.ClassFile.FieldType.int) ∈ WA := wa_of (wm4 (List.mem_of_getElem? (i := 236) rfl)) rfl
theorem w957 : Cond.methodLink RL 165 yX10_leastRest ∈ WA := wa_of (wm4 (List.mem_of_getElem? (i := 237) rfl)) rfl
theorem w958 : Cond.instanceMethod yX10_leastRest ∈ WA := wa_of (wm4 (List.mem_of_getElem? (i := 238) rfl)) rfl
theorem w959 : Cond.selects RX10 yX10_leastRest yX10_leastRest ∈ WA := wa_of (wm4 (List.mem_of_getElem? (i := 239) rfl)) rfl
theorem w960 : Cond.code yX10_leastRest cX10_leastRest 2 (Option.some Jvm.ClassFile.FieldType.int) ∈ WA := wa_of (wm5 (List.mem_of_getElem? (i := 0) rfl)) rfl
theorem w961 : Cond.methodLink RL 168 yX10_leastRestByDifferences ∈ WA := wa_of (wm5 (List.mem_of_getElem? (i := 1) rfl)) rfl
theorem w962 : Cond.instanceMethod yX10_leastRestByDifferences ∈ WA := wa_of (wm5 (List.mem_of_getElem? (i := 2) rfl)) rfl
theorem w963 : Cond.selects RX10 yX10_leastRestByDifferences yX10_leastRestByDifferences ∈ WA := wa_of (wm5 (List.mem_of_getElem? (i := 3) rfl)) rfl
theorem w964 : Cond.code yX10_leastRestByDifferences cX10_leastRestByDifferences 2 (Option.some Jvm.ClassFile.FieldType.int) ∈ WA := wa_of (wm5 (List.mem_of_getElem? (i := 4) rfl)) rfl
theorem w965 : Cond.methodLink RX10 233 yX2_leastModulusDividingNone ∈ WA := wa_of (wm5 (List.mem_of_getElem? (i := 5) rfl)) rfl
theorem w966 : Cond.instanceMethod yX2_leastModulusDividingNone ∈ WA := wa_of (wm5 (List.mem_of_getElem? (i := 6) rfl)) rfl
theorem w967 : Cond.selects RX2 yX2_leastModulusDividingNone yX2_leastModulusDividingNone ∈ WA := wa_of (wm5 (List.mem_of_getElem? (i := 7) rfl)) rfl
theorem w968 : Cond.code yX2_leastModulusDividingNone cX2_leastModulusDividingNone 2 (Option.some Jvm.ClassFile.FieldType.int) ∈ WA := wa_of (wm5 (List.mem_of_getElem? (i := 8) rfl)) rfl
theorem w969 : Cond.methodLink RX2 73 yJ9_abs_0f7a4 ∈ WA := wa_of (wm5 (List.mem_of_getElem? (i := 9) rfl)) rfl
theorem w970 : Cond.methodLink RX2 78 yX2_dividesOne ∈ WA := wa_of (wm5 (List.mem_of_getElem? (i := 10) rfl)) rfl
theorem w972 : Cond.instanceMethod yX2_dividesOne ∈ WA := wa_of (wm5 (List.mem_of_getElem? (i := 12) rfl)) rfl
theorem w973 : Cond.code yX2_dividesOne cX2_dividesOne 3 (Option.some Jvm.ClassFile.FieldType.boolean) ∈ WA := wa_of (wm5 (List.mem_of_getElem? (i := 13) rfl)) rfl
theorem w974 : Cond.methodLink RL 171 yX10_leastRowRest ∈ WA := wa_of (wm5 (List.mem_of_getElem? (i := 14) rfl)) rfl
theorem w975 : Cond.instanceMethod yX10_leastRowRest ∈ WA := wa_of (wm5 (List.mem_of_getElem? (i := 15) rfl)) rfl
theorem w976 : Cond.selects RX10 yX10_leastRowRest yX10_leastRowRest ∈ WA := wa_of (wm5 (List.mem_of_getElem? (i := 16) rfl)) rfl
theorem w977 : Cond.code yX10_leastRowRest cX10_leastRowRest 2 (Option.some Jvm.ClassFile.FieldType.int) ∈ WA := wa_of (wm5 (List.mem_of_getElem? (i := 17) rfl)) rfl
theorem w978 : Cond.methodLink RL 174 yX10_leastColumnRest ∈ WA := wa_of (wm5 (List.mem_of_getElem? (i := 18) rfl)) rfl
theorem w979 : Cond.instanceMethod yX10_leastColumnRest ∈ WA := wa_of (wm5 (List.mem_of_getElem? (i := 19) rfl)) rfl
theorem w980 : Cond.selects RX10 yX10_leastColumnRest yX10_leastColumnRest ∈ WA := wa_of (wm5 (List.mem_of_getElem? (i := 20) rfl)) rfl
theorem w981 : Cond.code yX10_leastColumnRest cX10_leastColumnRest 2 (Option.some Jvm.ClassFile.FieldType.int) ∈ WA := wa_of (wm5 (List.mem_of_getElem? (i := 21) rfl)) rfl
theorem w982 : Cond.methodLink RL 177 yX10_leastSlantModulus ∈ WA := wa_of (wm5 (List.mem_of_getElem? (i := 22) rfl)) rfl
theorem w983 : Cond.instanceMethod yX10_leastSlantModulus ∈ WA := wa_of (wm5 (List.mem_of_getElem? (i := 23) rfl)) rfl
theorem w984 : Cond.selects RX10 yX10_leastSlantModulus yX10_leastSlantModulus ∈ WA := wa_of (wm5 (List.mem_of_getElem? (i := 24) rfl)) rfl
theorem w985 : Cond.code yX10_leastSlantModulus cX10_leastSlantModulus 2 (Option.some Jvm.ClassFile.FieldType.int) ∈ WA := wa_of (wm5 (List.mem_of_getElem? (i := 25) rfl)) rfl
theorem w986 : Cond.methodLink RL 180 yX10_leastSlant ∈ WA := wa_of (wm5 (List.mem_of_getElem? (i := 26) rfl)) rfl
theorem w987 : Cond.instanceMethod yX10_leastSlant ∈ WA := wa_of (wm5 (List.mem_of_getElem? (i := 27) rfl)) rfl
theorem w988 : Cond.selects RX10 yX10_leastSlant yX10_leastSlant ∈ WA := wa_of (wm5 (List.mem_of_getElem? (i := 28) rfl)) rfl
theorem w989 : Cond.code yX10_leastSlant cX10_leastSlant 2 (Option.some Jvm.ClassFile.FieldType.int) ∈ WA := wa_of (wm5 (List.mem_of_getElem? (i := 29) rfl)) rfl
theorem w990 : Cond.methodLink RL 183 yL_joint ∈ WA := wa_of (wm5 (List.mem_of_getElem? (i := 30) rfl)) rfl
theorem w991 : Cond.static yL_joint ∈ WA := wa_of (wm5 (List.mem_of_getElem? (i := 31) rfl)) rfl
theorem w992 : Cond.code yL_joint cL_joint 6 (Option.some Jvm.ClassFile.FieldType.int) ∈ WA := wa_of (wm5 (List.mem_of_getElem? (i := 32) rfl)) rfl
theorem w993 : Cond.methodLink RL 241 yL_areValues ∈ WA := wa_of (wm5 (List.mem_of_getElem? (i := 33) rfl)) rfl
theorem w994 : Cond.static yL_areValues ∈ WA := wa_of (wm5 (List.mem_of_getElem? (i := 34) rfl)) rfl
theorem w995 : Cond.code yL_areValues cL_areValues 20 (Option.some Jvm.ClassFile.FieldType.boolean) ∈ WA := wa_of (wm5 (List.mem_of_getElem? (i := 35) rfl)) rfl
theorem w996 : Cond.methodLink RL 187 yL_cellAt ∈ WA := wa_of (wm5 (List.mem_of_getElem? (i := 36) rfl)) rfl
theorem w997 : Cond.static yL_cellAt ∈ WA := wa_of (wm5 (List.mem_of_getElem? (i := 37) rfl)) rfl
theorem w998 : Cond.code yL_cellAt cL_cellAt 4 (Option.some Jvm.ClassFile.FieldType.int) ∈ WA := wa_of (wm5 (List.mem_of_getElem? (i := 38) rfl)) rfl
theorem w999 : Cond.methodLink RL 190 yL_border ∈ WA := wa_of (wm5 (List.mem_of_getElem? (i := 39) rfl)) rfl
theorem w1000 : Cond.static yL_border ∈ WA := wa_of (wm5 (List.mem_of_getElem? (i := 40) rfl)) rfl
theorem w1001 : Cond.code yL_border cL_border 4 (Option.some Jvm.ClassFile.FieldType.int) ∈ WA := wa_of (wm5 (List.mem_of_getElem? (i := 41) rfl)) rfl
theorem w1002 : Cond.methodLink RL 193 yL_lies ∈ WA := wa_of (wm5 (List.mem_of_getElem? (i := 42) rfl)) rfl
theorem w1003 : Cond.static yL_lies ∈ WA := wa_of (wm5 (List.mem_of_getElem? (i := 43) rfl)) rfl
theorem w1004 : Cond.code yL_lies cL_lies 11 (Option.some Jvm.ClassFile.FieldType.int) ∈ WA := wa_of (wm5 (List.mem_of_getElem? (i := 44) rfl)) rfl
theorem w1005 : Cond.methodLink RL 197 yX10_valueOf ∈ WA := wa_of (wm5 (List.mem_of_getElem? (i := 45) rfl)) rfl
theorem w1006 : Cond.instanceMethod yX10_valueOf ∈ WA := wa_of (wm5 (List.mem_of_getElem? (i := 46) rfl)) rfl
theorem w1007 : Cond.selects RX10 yX10_valueOf yX10_valueOf ∈ WA := wa_of (wm5 (List.mem_of_getElem? (i := 47) rfl)) rfl
theorem w1008 : Cond.code yX10_valueOf cX10_valueOf 5 (Option.some Jvm.ClassFile.FieldType.int) ∈ WA := wa_of (wm5 (List.mem_of_getElem? (i := 48) rfl)) rfl
theorem w1009 : Cond.methodLink RX10 257 yX10_valueWritten ∈ WA := wa_of (wm5 (List.mem_of_getElem? (i := 49) rfl)) rfl
theorem w1011 : Cond.instanceMethod yX10_valueWritten ∈ WA := wa_of (wm5 (List.mem_of_getElem? (i := 51) rfl)) rfl
theorem w1012 : Cond.code yX10_valueWritten cX10_valueWritten 5 (Option.some Jvm.ClassFile.FieldType.int) ∈ WA := wa_of (wm5 (List.mem_of_getElem? (i := 52) rfl)) rfl
theorem w1013 : Cond.methodLink RL 200 yX10_contractedValueOf ∈ WA := wa_of (wm5 (List.mem_of_getElem? (i := 53) rfl)) rfl
theorem w1014 : Cond.instanceMethod yX10_contractedValueOf ∈ WA := wa_of (wm5 (List.mem_of_getElem? (i := 54) rfl)) rfl
theorem w1015 : Cond.selects RX10 yX10_contractedValueOf yX10_contractedValueOf ∈ WA := wa_of (wm5 (List.mem_of_getElem? (i := 55) rfl)) rfl
theorem w1016 : Cond.code yX10_contractedValueOf cX10_contractedValueOf 5 (Option.some Jvm.ClassFile.FieldType.int) ∈ WA := wa_of (wm5 (List.mem_of_getElem? (i := 56) rfl)) rfl
theorem w1017 : Cond.methodLink RL 244 yL_isBest ∈ WA := wa_of (wm5 (List.mem_of_getElem? (i := 57) rfl)) rfl
theorem w1018 : Cond.static yL_isBest ∈ WA := wa_of (wm5 (List.mem_of_getElem? (i := 58) rfl)) rfl
theorem w1019 : Cond.code yL_isBest cL_isBest 12 (Option.some Jvm.ClassFile.FieldType.boolean) ∈ WA := wa_of (wm5 (List.mem_of_getElem? (i := 59) rfl)) rfl
theorem w1020 : Cond.methodLink RL 221 yL_isProgram ∈ WA := wa_of (wm5 (List.mem_of_getElem? (i := 60) rfl)) rfl
theorem w1021 : Cond.static yL_isProgram ∈ WA := wa_of (wm5 (List.mem_of_getElem? (i := 61) rfl)) rfl
theorem w1022 : Cond.code yL_isProgram cL_isProgram 17 (Option.some Jvm.ClassFile.FieldType.boolean) ∈ WA := wa_of (wm5 (List.mem_of_getElem? (i := 62) rfl)) rfl
theorem w1023 : Cond.methodLink RL 225 yL_isWindow ∈ WA := wa_of (wm5 (List.mem_of_getElem? (i := 63) rfl)) rfl
theorem w1024 : Cond.static yL_isWindow ∈ WA := wa_of (wm5 (List.mem_of_getElem? (i := 64) rfl)) rfl
theorem w1025 : Cond.code yL_isWindow cL_isWindow 14 (Option.some Jvm.ClassFile.FieldType.boolean) ∈ WA := wa_of (wm5 (List.mem_of_getElem? (i := 65) rfl)) rfl
theorem w1026 : Cond.methodLink RL 229 yL_isContracted ∈ WA := wa_of (wm5 (List.mem_of_getElem? (i := 66) rfl)) rfl
theorem w1027 : Cond.static yL_isContracted ∈ WA := wa_of (wm5 (List.mem_of_getElem? (i := 67) rfl)) rfl
theorem w1028 : Cond.code yL_isContracted cL_isContracted 11 (Option.some Jvm.ClassFile.FieldType.boolean) ∈ WA := wa_of (wm5 (List.mem_of_getElem? (i := 68) rfl)) rfl
theorem w1048 : Cond.selects "[Ljava/lang/Object;" ⟨"java/lang/Object", "getClass", "()Ljava/lang/Class;"⟩ ⟨"java/lang/Object", "getClass", "()Ljava/lang/Class;"⟩ ∈ WA := wa_of (wm5 (List.mem_of_getElem? (i := 88) rfl)) rfl
theorem w1055 : Cond.fieldLink RJx29ce0 7 "java/lang/Enum" "ordinal" "I" ∈ WA := wa_of (wm5 (List.mem_of_getElem? (i := 95) rfl)) rfl
theorem wp1 {q : MethodName × Nat} (h : q ∈ lw_privs_1) : q ∈ lw_privs := List.mem_append_left _ h
theorem wps0_0 : Cond.selects RX10 yX10_arranged yX10_arranged ∈ WA := wa_sel (q := (yX10_arranged, 9)) (wp1 (List.mem_of_getElem? (i := 0) rfl)) rfl
theorem wps0_1 : Cond.selects RX9 yX9_setTimes yX9_setTimes ∈ WA := wa_sel (q := (yX9_setTimes, 10)) (wp1 (List.mem_of_getElem? (i := 1) rfl)) rfl
theorem wps0_2 : Cond.selects RX9 yX9_setSteps yX9_setSteps ∈ WA := wa_sel (q := (yX9_setSteps, 10)) (wp1 (List.mem_of_getElem? (i := 2) rfl)) rfl
theorem wps0_3 : Cond.selects RX9 yX9_setEnds yX9_setEnds ∈ WA := wa_sel (q := (yX9_setEnds, 10)) (wp1 (List.mem_of_getElem? (i := 3) rfl)) rfl
theorem wps0_4 : Cond.selects RX9 yX9_stretchCellRead yX9_stretchCellRead ∈ WA := wa_sel (q := (yX9_stretchCellRead, 10)) (wp1 (List.mem_of_getElem? (i := 4) rfl)) rfl
theorem wps0_5 : Cond.selects RX10 yX10_gatherDifferences yX10_gatherDifferences ∈ WA := wa_sel (q := (yX10_gatherDifferences, 9)) (wp1 (List.mem_of_getElem? (i := 5) rfl)) rfl
theorem wps0_6 : Cond.selects RX9 yX9_isBornWithin yX9_isBornWithin ∈ WA := wa_sel (q := (yX9_isBornWithin, 10)) (wp1 (List.mem_of_getElem? (i := 6) rfl)) rfl
theorem wps0_7 : Cond.selects RX2 yX2_addOne yX2_addOne ∈ WA := wa_sel (q := (yX2_addOne, 7)) (wp1 (List.mem_of_getElem? (i := 7) rfl)) rfl
theorem wps0_8 : Cond.selects RX10 yX10_keepSmallest yX10_keepSmallest ∈ WA := wa_sel (q := (yX10_keepSmallest, 9)) (wp1 (List.mem_of_getElem? (i := 8) rfl)) rfl
theorem wps0_9 : Cond.selects RX10 yX10_keepIfSmaller yX10_keepIfSmaller ∈ WA := wa_sel (q := (yX10_keepIfSmaller, 9)) (wp1 (List.mem_of_getElem? (i := 9) rfl)) rfl
theorem wps0_10 : Cond.selects RX10 yX10_placesOf yX10_placesOf ∈ WA := wa_sel (q := (yX10_placesOf, 9)) (wp1 (List.mem_of_getElem? (i := 10) rfl)) rfl
theorem wps0_11 : Cond.selects RX4 yX4_taken yX4_taken ∈ WA := wa_sel (q := (yX4_taken, 2)) (wp1 (List.mem_of_getElem? (i := 11) rfl)) rfl
theorem wps0_12 : Cond.selects RX4 yX4_placeIn yX4_placeIn ∈ WA := wa_sel (q := (yX4_placeIn, 2)) (wp1 (List.mem_of_getElem? (i := 12) rfl)) rfl
theorem wps0_13 : Cond.selects "java/lang/Throwable" ⟨"java/lang/Throwable", "fillInStackTrace", "(I)Ljava/lang/Throwable;"⟩ ⟨"java/lang/Throwable", "fillInStackTrace", "(I)Ljava/lang/Throwable;"⟩ ∈ WA := wa_sel (q := (⟨"java/lang/Throwable", "fillInStackTrace", "(I)Ljava/lang/Throwable;"⟩, 6)) (wp1 (List.mem_of_getElem? (i := 13) rfl)) rfl
theorem wps0_14 : Cond.selects RJx4a65c yJx4a65c_add_72be8 yJx4a65c_add_72be8 ∈ WA := wa_sel (q := (yJx4a65c_add_72be8, 3)) (wp1 (List.mem_of_getElem? (i := 14) rfl)) rfl
theorem wps0_15 : Cond.selects RJx4a65c yJx4a65c_grow_d5877 yJx4a65c_grow_d5877 ∈ WA := wa_sel (q := (yJx4a65c_grow_d5877, 3)) (wp1 (List.mem_of_getElem? (i := 15) rfl)) rfl
theorem wp2 {q : MethodName × Nat} (h : q ∈ lw_privs_2) : q ∈ lw_privs := List.mem_append_right _ (h)
theorem wps1_0 : Cond.selects RJx4a65c yJx4a65c_grow_92f84 yJx4a65c_grow_92f84 ∈ WA := wa_sel (q := (yJx4a65c_grow_92f84, 3)) (wp2 (List.mem_of_getElem? (i := 0) rfl)) rfl
theorem wps1_1 : Cond.selects RX10 yX10_requireStatement yX10_requireStatement ∈ WA := wa_sel (q := (yX10_requireStatement, 9)) (wp2 (List.mem_of_getElem? (i := 1) rfl)) rfl
theorem wps1_2 : Cond.selects RX10 yX10_findBest yX10_findBest ∈ WA := wa_sel (q := (yX10_findBest, 9)) (wp2 (List.mem_of_getElem? (i := 2) rfl)) rfl
theorem wps1_3 : Cond.selects RX10 yX10_leastRoomWith yX10_leastRoomWith ∈ WA := wa_sel (q := (yX10_leastRoomWith, 9)) (wp2 (List.mem_of_getElem? (i := 3) rfl)) rfl
theorem wps1_4 : Cond.selects RX10 yX10_requireCell yX10_requireCell ∈ WA := wa_sel (q := (yX10_requireCell, 9)) (wp2 (List.mem_of_getElem? (i := 4) rfl)) rfl
theorem wps1_5 : Cond.selects RX10 yX10_requirePoint yX10_requirePoint ∈ WA := wa_sel (q := (yX10_requirePoint, 9)) (wp2 (List.mem_of_getElem? (i := 5) rfl)) rfl
theorem wps1_6 : Cond.selects RX10 yX10_requireStep yX10_requireStep ∈ WA := wa_sel (q := (yX10_requireStep, 9)) (wp2 (List.mem_of_getElem? (i := 6) rfl)) rfl
theorem wps1_7 : Cond.selects RX2 yX2_dividesOne yX2_dividesOne ∈ WA := wa_sel (q := (yX2_dividesOne, 7)) (wp2 (List.mem_of_getElem? (i := 7) rfl)) rfl
theorem wps1_8 : Cond.selects RX10 yX10_valueWritten yX10_valueWritten ∈ WA := wa_sel (q := (yX10_valueWritten, 9)) (wp2 (List.mem_of_getElem? (i := 8) rfl)) rfl
theorem w63 : Cond.lays "java/util/ArrayList" "java/util/ArrayList" "size" "I" ∈ WA := wa_of (wm1 (List.mem_of_getElem? (i := 63) rfl)) rfl
theorem w61 : Cond.lays "java/util/ArrayList" "java/util/ArrayList" "elementData" "[Ljava/lang/Object;" ∈ WA := wa_of (wm1 (List.mem_of_getElem? (i := 61) rfl)) rfl
theorem w65 : Cond.lays "java/util/ArrayList" "java/util/AbstractList" "modCount" "I" ∈ WA := wa_of (wm1 (List.mem_of_getElem? (i := 65) rfl)) rfl
theorem iwJx4a65c : ∀ w ∈ u_ws RJx4a65c TJx4a65c 3, w ∈ WA := List.forall_mem_cons.mpr ⟨w65, List.forall_mem_cons.mpr ⟨w61, List.forall_mem_cons.mpr ⟨w63, List.forall_mem_nil _⟩⟩⟩
theorem w230 : Cond.lays "CellWindows$Best" "CellWindows$Best" "room" "I" ∈ WA := wa_of (wm1 (List.mem_of_getElem? (i := 230) rfl)) rfl
theorem w228 : Cond.lays "CellWindows$Best" "CellWindows$Best" "columnWeight" "I" ∈ WA := wa_of (wm1 (List.mem_of_getElem? (i := 228) rfl)) rfl
theorem w226 : Cond.lays "CellWindows$Best" "CellWindows$Best" "rowWeight" "I" ∈ WA := wa_of (wm1 (List.mem_of_getElem? (i := 226) rfl)) rfl
theorem w224 : Cond.lays "CellWindows$Best" "CellWindows$Best" "found" "Z" ∈ WA := wa_of (wm1 (List.mem_of_getElem? (i := 224) rfl)) rfl
theorem iwX1 : ∀ w ∈ u_ws RX1 TX1 4, w ∈ WA := List.forall_mem_cons.mpr ⟨w224, List.forall_mem_cons.mpr ⟨w226, List.forall_mem_cons.mpr ⟨w228, List.forall_mem_cons.mpr ⟨w230, List.forall_mem_nil _⟩⟩⟩⟩
theorem w163 : Cond.lays "CellWindows$Differences" "CellWindows$Differences" "columns" "I" ∈ WA := wa_of (wm1 (List.mem_of_getElem? (i := 163) rfl)) rfl
theorem w161 : Cond.lays "CellWindows$Differences" "CellWindows$Differences" "rows" "I" ∈ WA := wa_of (wm1 (List.mem_of_getElem? (i := 161) rfl)) rfl
theorem w159 : Cond.lays "CellWindows$Differences" "CellWindows$Differences" "count" "I" ∈ WA := wa_of (wm1 (List.mem_of_getElem? (i := 159) rfl)) rfl
theorem w157 : Cond.laysFinal "CellWindows$Differences" "CellWindows$Differences" "inLine" "[Z" ∈ WA := wa_of (wm1 (List.mem_of_getElem? (i := 157) rfl)) rfl
theorem w155 : Cond.laysFinal "CellWindows$Differences" "CellWindows$Differences" "columnDifference" "[I" ∈ WA := wa_of (wm1 (List.mem_of_getElem? (i := 155) rfl)) rfl
theorem w153 : Cond.laysFinal "CellWindows$Differences" "CellWindows$Differences" "rowDifference" "[I" ∈ WA := wa_of (wm1 (List.mem_of_getElem? (i := 153) rfl)) rfl
theorem w151 : Cond.laysFinal "CellWindows$Differences" "CellWindows$Differences" "known" "[Z" ∈ WA := wa_of (wm1 (List.mem_of_getElem? (i := 151) rfl)) rfl
theorem iwX2 : ∀ w ∈ u_ws RX2 TX2 7, w ∈ WA := List.forall_mem_cons.mpr ⟨w151, List.forall_mem_cons.mpr ⟨w153, List.forall_mem_cons.mpr ⟨w155, List.forall_mem_cons.mpr ⟨w157, List.forall_mem_cons.mpr ⟨w159, List.forall_mem_cons.mpr ⟨w161, List.forall_mem_cons.mpr ⟨w163, List.forall_mem_nil _⟩⟩⟩⟩⟩⟩⟩
theorem w207 : Cond.laysFinal "CellWindows$Machine" "CellWindows$Machine" "kept" "[[I" ∈ WA := wa_of (wm1 (List.mem_of_getElem? (i := 207) rfl)) rfl
theorem w205 : Cond.laysFinal "CellWindows$Machine" "CellWindows$Machine" "contracted" "Z" ∈ WA := wa_of (wm1 (List.mem_of_getElem? (i := 205) rfl)) rfl
theorem iwX4 : ∀ w ∈ u_ws RX4 TX4 2, w ∈ WA := List.forall_mem_cons.mpr ⟨w205, List.forall_mem_cons.mpr ⟨w207, List.forall_mem_nil _⟩⟩
theorem w88 : Cond.lays "CellWindows$Program" "CellWindows$Program" "points" "I" ∈ WA := wa_of (wm1 (List.mem_of_getElem? (i := 88) rfl)) rfl
theorem w86 : Cond.lays "CellWindows$Program" "CellWindows$Program" "columns" "I" ∈ WA := wa_of (wm1 (List.mem_of_getElem? (i := 86) rfl)) rfl
theorem w84 : Cond.lays "CellWindows$Program" "CellWindows$Program" "rows" "I" ∈ WA := wa_of (wm1 (List.mem_of_getElem? (i := 84) rfl)) rfl
theorem w82 : Cond.laysFinal "CellWindows$Program" "CellWindows$Program" "statements" "Ljava/util/ArrayList;" ∈ WA := wa_of (wm1 (List.mem_of_getElem? (i := 82) rfl)) rfl
theorem iwX5 : ∀ w ∈ u_ws RX5 TX5 4, w ∈ WA := List.forall_mem_cons.mpr ⟨w82, List.forall_mem_cons.mpr ⟨w84, List.forall_mem_cons.mpr ⟨w86, List.forall_mem_cons.mpr ⟨w88, List.forall_mem_nil _⟩⟩⟩⟩
theorem w751 : Cond.laysFinal "CellWindows$Read" "CellWindows$Read" "columnsBack" "I" ∈ WA := wa_of (wm4 (List.mem_of_getElem? (i := 31) rfl)) rfl
theorem w749 : Cond.laysFinal "CellWindows$Read" "CellWindows$Read" "rowsBack" "I" ∈ WA := wa_of (wm4 (List.mem_of_getElem? (i := 29) rfl)) rfl
theorem w747 : Cond.laysFinal "CellWindows$Read" "CellWindows$Read" "factor" "I" ∈ WA := wa_of (wm4 (List.mem_of_getElem? (i := 27) rfl)) rfl
theorem w745 : Cond.laysFinal "CellWindows$Read" "CellWindows$Read" "source" "I" ∈ WA := wa_of (wm4 (List.mem_of_getElem? (i := 25) rfl)) rfl
theorem iwX6 : ∀ w ∈ u_ws RX6 TX6 4, w ∈ WA := List.forall_mem_cons.mpr ⟨w745, List.forall_mem_cons.mpr ⟨w747, List.forall_mem_cons.mpr ⟨w749, List.forall_mem_cons.mpr ⟨w751, List.forall_mem_nil _⟩⟩⟩⟩
theorem w638 : Cond.lays "CellWindows$Statement" "CellWindows$Statement" "lasting" "Z" ∈ WA := wa_of (wm3 (List.mem_of_getElem? (i := 158) rfl)) rfl
theorem w636 : Cond.lays "CellWindows$Statement" "CellWindows$Statement" "offset" "I" ∈ WA := wa_of (wm3 (List.mem_of_getElem? (i := 156) rfl)) rfl
theorem w634 : Cond.laysFinal "CellWindows$Statement" "CellWindows$Statement" "window" "LCellWindows$Window;" ∈ WA := wa_of (wm3 (List.mem_of_getElem? (i := 154) rfl)) rfl
theorem w632 : Cond.laysFinal "CellWindows$Statement" "CellWindows$Statement" "reads" "Ljava/util/ArrayList;" ∈ WA := wa_of (wm3 (List.mem_of_getElem? (i := 152) rfl)) rfl
theorem w630 : Cond.laysFinal "CellWindows$Statement" "CellWindows$Statement" "addend" "I" ∈ WA := wa_of (wm3 (List.mem_of_getElem? (i := 150) rfl)) rfl
theorem iwX7 : ∀ w ∈ u_ws RX7 TX7 5, w ∈ WA := List.forall_mem_cons.mpr ⟨w630, List.forall_mem_cons.mpr ⟨w632, List.forall_mem_cons.mpr ⟨w634, List.forall_mem_cons.mpr ⟨w636, List.forall_mem_cons.mpr ⟨w638, List.forall_mem_nil _⟩⟩⟩⟩⟩
theorem w192 : Cond.lays "CellWindows$Window" "CellWindows$Window" "slant" "I" ∈ WA := wa_of (wm1 (List.mem_of_getElem? (i := 192) rfl)) rfl
theorem w190 : Cond.lays "CellWindows$Window" "CellWindows$Window" "columnModulus" "I" ∈ WA := wa_of (wm1 (List.mem_of_getElem? (i := 190) rfl)) rfl
theorem w188 : Cond.lays "CellWindows$Window" "CellWindows$Window" "rowModulus" "I" ∈ WA := wa_of (wm1 (List.mem_of_getElem? (i := 188) rfl)) rfl
theorem w186 : Cond.lays "CellWindows$Window" "CellWindows$Window" "modulus" "I" ∈ WA := wa_of (wm1 (List.mem_of_getElem? (i := 186) rfl)) rfl
theorem w184 : Cond.lays "CellWindows$Window" "CellWindows$Window" "kind" "LCellWindows$Kind;" ∈ WA := wa_of (wm1 (List.mem_of_getElem? (i := 184) rfl)) rfl
theorem iwX8 : ∀ w ∈ u_ws RX8 TX8 5, w ∈ WA := List.forall_mem_cons.mpr ⟨w184, List.forall_mem_cons.mpr ⟨w186, List.forall_mem_cons.mpr ⟨w188, List.forall_mem_cons.mpr ⟨w190, List.forall_mem_cons.mpr ⟨w192, List.forall_mem_nil _⟩⟩⟩⟩⟩
theorem w134 : Cond.lays "CellWindows$Work" "CellWindows$Work" "cells" "I" ∈ WA := wa_of (wm1 (List.mem_of_getElem? (i := 134) rfl)) rfl
theorem w132 : Cond.laysFinal "CellWindows$Work" "CellWindows$Work" "change" "[I" ∈ WA := wa_of (wm1 (List.mem_of_getElem? (i := 132) rfl)) rfl
theorem w130 : Cond.laysFinal "CellWindows$Work" "CellWindows$Work" "nextStep" "[I" ∈ WA := wa_of (wm1 (List.mem_of_getElem? (i := 130) rfl)) rfl
theorem w128 : Cond.laysFinal "CellWindows$Work" "CellWindows$Work" "time" "[I" ∈ WA := wa_of (wm1 (List.mem_of_getElem? (i := 128) rfl)) rfl
theorem w126 : Cond.laysFinal "CellWindows$Work" "CellWindows$Work" "cellAt" "[I" ∈ WA := wa_of (wm1 (List.mem_of_getElem? (i := 126) rfl)) rfl
theorem w124 : Cond.laysFinal "CellWindows$Work" "CellWindows$Work" "end" "[I" ∈ WA := wa_of (wm1 (List.mem_of_getElem? (i := 124) rfl)) rfl
theorem w122 : Cond.laysFinal "CellWindows$Work" "CellWindows$Work" "birth" "[I" ∈ WA := wa_of (wm1 (List.mem_of_getElem? (i := 122) rfl)) rfl
theorem w120 : Cond.laysFinal "CellWindows$Work" "CellWindows$Work" "column" "[I" ∈ WA := wa_of (wm1 (List.mem_of_getElem? (i := 120) rfl)) rfl
theorem w118 : Cond.laysFinal "CellWindows$Work" "CellWindows$Work" "row" "[I" ∈ WA := wa_of (wm1 (List.mem_of_getElem? (i := 118) rfl)) rfl
theorem w116 : Cond.laysFinal "CellWindows$Work" "CellWindows$Work" "number" "[I" ∈ WA := wa_of (wm1 (List.mem_of_getElem? (i := 116) rfl)) rfl
theorem iwX9 : ∀ w ∈ u_ws RX9 TX9 10, w ∈ WA := List.forall_mem_cons.mpr ⟨w116, List.forall_mem_cons.mpr ⟨w118, List.forall_mem_cons.mpr ⟨w120, List.forall_mem_cons.mpr ⟨w122, List.forall_mem_cons.mpr ⟨w124, List.forall_mem_cons.mpr ⟨w126, List.forall_mem_cons.mpr ⟨w128, List.forall_mem_cons.mpr ⟨w130, List.forall_mem_cons.mpr ⟨w132, List.forall_mem_cons.mpr ⟨w134, List.forall_mem_nil _⟩⟩⟩⟩⟩⟩⟩⟩⟩⟩
theorem w258 : Cond.lays "CellWindows" "CellWindows" "columnWeight" "I" ∈ WA := wa_of (wm2 (List.mem_of_getElem? (i := 18) rfl)) rfl
theorem w256 : Cond.lays "CellWindows" "CellWindows" "rowWeight" "I" ∈ WA := wa_of (wm2 (List.mem_of_getElem? (i := 16) rfl)) rfl
theorem w254 : Cond.laysFinal "CellWindows" "CellWindows" "best" "LCellWindows$Best;" ∈ WA := wa_of (wm2 (List.mem_of_getElem? (i := 14) rfl)) rfl
theorem w252 : Cond.laysFinal "CellWindows" "CellWindows" "contractedMachine" "LCellWindows$Machine;" ∈ WA := wa_of (wm2 (List.mem_of_getElem? (i := 12) rfl)) rfl
theorem w250 : Cond.laysFinal "CellWindows" "CellWindows" "plainMachine" "LCellWindows$Machine;" ∈ WA := wa_of (wm2 (List.mem_of_getElem? (i := 10) rfl)) rfl
theorem w248 : Cond.laysFinal "CellWindows" "CellWindows" "least" "LCellWindows$Window;" ∈ WA := wa_of (wm2 (List.mem_of_getElem? (i := 8) rfl)) rfl
theorem w246 : Cond.laysFinal "CellWindows" "CellWindows" "differences" "LCellWindows$Differences;" ∈ WA := wa_of (wm2 (List.mem_of_getElem? (i := 6) rfl)) rfl
theorem w244 : Cond.laysFinal "CellWindows" "CellWindows" "work" "LCellWindows$Work;" ∈ WA := wa_of (wm2 (List.mem_of_getElem? (i := 4) rfl)) rfl
theorem w242 : Cond.laysFinal "CellWindows" "CellWindows" "program" "LCellWindows$Program;" ∈ WA := wa_of (wm2 (List.mem_of_getElem? (i := 2) rfl)) rfl
theorem iwX10 : ∀ w ∈ u_ws RX10 TX10 9, w ∈ WA := List.forall_mem_cons.mpr ⟨w242, List.forall_mem_cons.mpr ⟨w244, List.forall_mem_cons.mpr ⟨w246, List.forall_mem_cons.mpr ⟨w248, List.forall_mem_cons.mpr ⟨w250, List.forall_mem_cons.mpr ⟨w252, List.forall_mem_cons.mpr ⟨w254, List.forall_mem_cons.mpr ⟨w256, List.forall_mem_cons.mpr ⟨w258, List.forall_mem_nil _⟩⟩⟩⟩⟩⟩⟩⟩⟩

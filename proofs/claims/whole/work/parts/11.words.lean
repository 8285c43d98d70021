theorem wm1 {w : Cond} (h : w ∈ tables_1_1) : w ∈ tables_1 := List.mem_append_left _ h
theorem wm2 {w : Cond} (h : w ∈ tables_1_2) : w ∈ tables_1 := List.mem_append_right _ (List.mem_append_left _ h)
theorem wm3 {w : Cond} (h : w ∈ tables_1_3) : w ∈ tables_1 := List.mem_append_right _ (List.mem_append_right _ (List.mem_append_left _ h))
theorem wm4 {w : Cond} (h : w ∈ tables_1_4) : w ∈ tables_1 := List.mem_append_right _ (List.mem_append_right _ (List.mem_append_right _ (List.mem_append_left _ h)))
theorem wm5 {w : Cond} (h : w ∈ tables_1_5) : w ∈ tables_1 := List.mem_append_right _ (List.mem_append_right _ (List.mem_append_right _ (List.mem_append_right _ (List.mem_append_left _ h))))
theorem wm6 {w : Cond} (h : w ∈ tables_1_6) : w ∈ tables_1 := List.mem_append_right _ (List.mem_append_right _ (List.mem_append_right _ (List.mem_append_right _ (List.mem_append_right _ (List.mem_append_left _ h)))))
theorem wm7 {w : Cond} (h : w ∈ tables_1_7) : w ∈ tables_1 := List.mem_append_right _ (List.mem_append_right _ (List.mem_append_right _ (List.mem_append_right _ (List.mem_append_right _ (List.mem_append_right _ (h))))))
theorem w0 : Cond.initialized RL ∈ WA := wa_of (wm1 (List.mem_of_getElem? (i := 0) rfl)) rfl
theorem w1 : Cond.initialized RX10 ∈ WA := wa_of (wm1 (List.mem_of_getElem? (i := 1) rfl)) rfl
theorem w2 : Cond.initialized RX5 ∈ WA := wa_of (wm1 (List.mem_of_getElem? (i := 2) rfl)) rfl
theorem w3 : Cond.initialized RJxa1e45 ∈ WA := wa_of (wm1 (List.mem_of_getElem? (i := 3) rfl)) rfl
theorem w4 : Cond.initialized RJxc12de ∈ WA := wa_of (wm1 (List.mem_of_getElem? (i := 4) rfl)) rfl
theorem w5 : Cond.initialized RJx4a65c ∈ WA := wa_of (wm1 (List.mem_of_getElem? (i := 5) rfl)) rfl
theorem w6 : Cond.initialized RX9 ∈ WA := wa_of (wm1 (List.mem_of_getElem? (i := 6) rfl)) rfl
theorem w7 : Cond.initialized RX2 ∈ WA := wa_of (wm1 (List.mem_of_getElem? (i := 7) rfl)) rfl
theorem w8 : Cond.initialized RX8 ∈ WA := wa_of (wm1 (List.mem_of_getElem? (i := 8) rfl)) rfl
theorem w9 : Cond.initialized RJx29ce0 ∈ WA := wa_of (wm1 (List.mem_of_getElem? (i := 9) rfl)) rfl
theorem w10 : Cond.initialized RX3 ∈ WA := wa_of (wm1 (List.mem_of_getElem? (i := 10) rfl)) rfl
theorem w11 : Cond.initialized RX4 ∈ WA := wa_of (wm1 (List.mem_of_getElem? (i := 11) rfl)) rfl
theorem w12 : Cond.initialized RX1 ∈ WA := wa_of (wm1 (List.mem_of_getElem? (i := 12) rfl)) rfl
theorem w13 : Cond.initialized RX11 ∈ WA := wa_of (wm1 (List.mem_of_getElem? (i := 13) rfl)) rfl
theorem w14 : Cond.initialized "java/lang/Throwable" ∈ WA := wa_of (wm1 (List.mem_of_getElem? (i := 14) rfl)) rfl
theorem w15 : Cond.initialized "java/lang/Exception" ∈ WA := wa_of (wm1 (List.mem_of_getElem? (i := 15) rfl)) rfl
theorem w16 : Cond.initialized "java/lang/RuntimeException" ∈ WA := wa_of (wm1 (List.mem_of_getElem? (i := 16) rfl)) rfl
theorem w17 : Cond.initialized "java/lang/IllegalArgumentException" ∈ WA := wa_of (wm1 (List.mem_of_getElem? (i := 17) rfl)) rfl
theorem w18 : Cond.initialized "java/lang/IllegalStateException" ∈ WA := wa_of (wm1 (List.mem_of_getElem? (i := 18) rfl)) rfl
theorem w19 : Cond.initialized RX7 ∈ WA := wa_of (wm1 (List.mem_of_getElem? (i := 19) rfl)) rfl
theorem w20 : Cond.initialized RJ8 ∈ WA := wa_of (wm1 (List.mem_of_getElem? (i := 20) rfl)) rfl
theorem w21 : Cond.initialized RJ9 ∈ WA := wa_of (wm1 (List.mem_of_getElem? (i := 21) rfl)) rfl
theorem w22 : Cond.initialized RJ7 ∈ WA := wa_of (wm1 (List.mem_of_getElem? (i := 22) rfl)) rfl
theorem w23 : Cond.initialized RJ10 ∈ WA := wa_of (wm1 (List.mem_of_getElem? (i := 23) rfl)) rfl
theorem w24 : Cond.initialized "java/lang/IndexOutOfBoundsException" ∈ WA := wa_of (wm1 (List.mem_of_getElem? (i := 24) rfl)) rfl
theorem w25 : Cond.initialized RJ15 ∈ WA := wa_of (wm1 (List.mem_of_getElem? (i := 25) rfl)) rfl
theorem w26 : Cond.initialized RJ3 ∈ WA := wa_of (wm1 (List.mem_of_getElem? (i := 26) rfl)) rfl
theorem w27 : Cond.initialized RX6 ∈ WA := wa_of (wm1 (List.mem_of_getElem? (i := 27) rfl)) rfl
theorem w28 : Cond.initialized RX0 ∈ WA := wa_of (wm1 (List.mem_of_getElem? (i := 28) rfl)) rfl
theorem w29 : Cond.classLink RL 8 RX10 ∈ WA := wa_of (wm1 (List.mem_of_getElem? (i := 29) rfl)) rfl
theorem w30 : Cond.instantiable RX10 9 ∈ WA := wa_of (wm1 (List.mem_of_getElem? (i := 30) rfl)) rfl
theorem w31 : Cond.methodLink RL 132 yX10_init ∈ WA := wa_of (wm1 (List.mem_of_getElem? (i := 31) rfl)) rfl
theorem w32 : Cond.instanceMethod yX10_init ∈ WA := wa_of (wm1 (List.mem_of_getElem? (i := 32) rfl)) rfl
theorem w33 : Cond.code yX10_init cX10_init 1 (Option.none : Option Jvm.ClassFile.FieldType) ∈ WA := wa_of (wm1 (List.mem_of_getElem? (i := 33) rfl)) rfl
theorem w34 : Cond.methodLink RX10 3 ⟨"java/lang/Object", "<init>", "()V"⟩ ∈ WA := wa_of (wm1 (List.mem_of_getElem? (i := 34) rfl)) rfl
theorem w35 : Cond.instanceMethod ⟨"java/lang/Object", "<init>", "()V"⟩ ∈ WA := wa_of (wm1 (List.mem_of_getElem? (i := 35) rfl)) rfl
theorem w36 : Cond.code ⟨"java/lang/Object", "<init>", "()V"⟩ object_method_1_code 1 (Option.none : Option Jvm.ClassFile.FieldType) ∈ WA := wa_of (wm1 (List.mem_of_getElem? (i := 36) rfl)) rfl
theorem w37 : Cond.classLink RX10 9 RX5 ∈ WA := wa_of (wm1 (List.mem_of_getElem? (i := 37) rfl)) rfl
theorem w38 : Cond.instantiable RX5 4 ∈ WA := wa_of (wm1 (List.mem_of_getElem? (i := 38) rfl)) rfl
theorem w40 : Cond.instanceMethod yX5_init ∈ WA := wa_of (wm1 (List.mem_of_getElem? (i := 40) rfl)) rfl
theorem w41 : Cond.code yX5_init cX5_init 1 (Option.none : Option Jvm.ClassFile.FieldType) ∈ WA := wa_of (wm1 (List.mem_of_getElem? (i := 41) rfl)) rfl
theorem w42 : Cond.methodLink RX5 3 ⟨"java/lang/Object", "<init>", "()V"⟩ ∈ WA := wa_of (wm1 (List.mem_of_getElem? (i := 42) rfl)) rfl
theorem w43 : Cond.classLink RX5 9 RJx4a65c ∈ WA := wa_of (wm1 (List.mem_of_getElem? (i := 43) rfl)) rfl
theorem w44 : Cond.instantiable RJx4a65c 3 ∈ WA := wa_of (wm1 (List.mem_of_getElem? (i := 44) rfl)) rfl
theorem w45 : Cond.methodLink RX5 11 yJx4a65c_init_da8c8 ∈ WA := wa_of (wm1 (List.mem_of_getElem? (i := 45) rfl)) rfl
theorem w46 : Cond.instanceMethod yJx4a65c_init_da8c8 ∈ WA := wa_of (wm1 (List.mem_of_getElem? (i := 46) rfl)) rfl
theorem w47 : Cond.code yJx4a65c_init_da8c8 cJx4a65c_init_da8c8 1 (Option.none : Option Jvm.ClassFile.FieldType) ∈ WA := wa_of (wm1 (List.mem_of_getElem? (i := 47) rfl)) rfl
theorem w48 : Cond.methodLink RJx4a65c 1 yJxc12de_init_da8c8 ∈ WA := wa_of (wm1 (List.mem_of_getElem? (i := 48) rfl)) rfl
theorem w49 : Cond.instanceMethod yJxc12de_init_da8c8 ∈ WA := wa_of (wm1 (List.mem_of_getElem? (i := 49) rfl)) rfl
theorem w50 : Cond.code yJxc12de_init_da8c8 cJxc12de_init_da8c8 1 (Option.none : Option Jvm.ClassFile.FieldType) ∈ WA := wa_of (wm1 (List.mem_of_getElem? (i := 50) rfl)) rfl
theorem w51 : Cond.methodLink RJxc12de 1 yJxa1e45_init_da8c8 ∈ WA := wa_of (wm1 (List.mem_of_getElem? (i := 51) rfl)) rfl
theorem w52 : Cond.instanceMethod yJxa1e45_init_da8c8 ∈ WA := wa_of (wm1 (List.mem_of_getElem? (i := 52) rfl)) rfl
theorem w53 : Cond.code yJxa1e45_init_da8c8 cJxa1e45_init_da8c8 1 (Option.none : Option Jvm.ClassFile.FieldType) ∈ WA := wa_of (wm1 (List.mem_of_getElem? (i := 53) rfl)) rfl
theorem w54 : Cond.methodLink RJxa1e45 1 ⟨"java/lang/Object", "<init>", "()V"⟩ ∈ WA := wa_of (wm1 (List.mem_of_getElem? (i := 54) rfl)) rfl
theorem w55 : Cond.fieldLink RJx4a65c 39 "java/util/ArrayList" "DEFAULTCAPACITY_EMPTY_ELEMENTDATA" "[Ljava/lang/Object;" ∈ WA := wa_of (wm1 (List.mem_of_getElem? (i := 55) rfl)) rfl
theorem w57 : Cond.fieldLink RJx4a65c 9 "java/util/ArrayList" "elementData" "[Ljava/lang/Object;" ∈ WA := wa_of (wm1 (List.mem_of_getElem? (i := 57) rfl)) rfl
theorem w58 : Cond.fieldLink RJx4a65c 48 "java/util/ArrayList" "size" "I" ∈ WA := wa_of (wm1 (List.mem_of_getElem? (i := 58) rfl)) rfl
theorem w59 : Cond.fieldLink RJxc12de 7 "java/util/AbstractList" "modCount" "I" ∈ WA := wa_of (wm1 (List.mem_of_getElem? (i := 59) rfl)) rfl
theorem w60 : Cond.fieldLink RJx4a65c 63 "java/util/ArrayList" "modCount" "I" ∈ WA := wa_of (wm1 (List.mem_of_getElem? (i := 60) rfl)) rfl
theorem w61 : Cond.sameField "java/util/ArrayList" "java/util/AbstractList" "modCount" "I" ∈ WA := wa_of (wm1 (List.mem_of_getElem? (i := 61) rfl)) rfl
theorem w69 : Cond.fieldLink RX5 12 "CellWindows$Program" "statements" "Ljava/util/ArrayList;" ∈ WA := wa_of (wm1 (List.mem_of_getElem? (i := 69) rfl)) rfl
theorem w73 : Cond.fieldLink RX5 18 "CellWindows$Program" "rows" "I" ∈ WA := wa_of (wm1 (List.mem_of_getElem? (i := 73) rfl)) rfl
theorem w76 : Cond.fieldLink RX5 22 "CellWindows$Program" "columns" "I" ∈ WA := wa_of (wm1 (List.mem_of_getElem? (i := 76) rfl)) rfl
theorem w81 : Cond.fieldLink RX5 25 "CellWindows$Program" "points" "I" ∈ WA := wa_of (wm1 (List.mem_of_getElem? (i := 81) rfl)) rfl
theorem w92 : Cond.classLink RX10 16 RX9 ∈ WA := wa_of (wm1 (List.mem_of_getElem? (i := 92) rfl)) rfl
theorem w93 : Cond.instantiable RX9 10 ∈ WA := wa_of (wm1 (List.mem_of_getElem? (i := 93) rfl)) rfl
theorem w95 : Cond.instanceMethod yX9_init ∈ WA := wa_of (wm1 (List.mem_of_getElem? (i := 95) rfl)) rfl
theorem w96 : Cond.code yX9_init cX9_init 1 (Option.none : Option Jvm.ClassFile.FieldType) ∈ WA := wa_of (wm1 (List.mem_of_getElem? (i := 96) rfl)) rfl
theorem w97 : Cond.methodLink RX9 3 ⟨"java/lang/Object", "<init>", "()V"⟩ ∈ WA := wa_of (wm1 (List.mem_of_getElem? (i := 97) rfl)) rfl
theorem w98 : Cond.fieldLink RX9 9 "CellWindows$Work" "number" "[I" ∈ WA := wa_of (wm1 (List.mem_of_getElem? (i := 98) rfl)) rfl
theorem w101 : Cond.fieldLink RX9 15 "CellWindows$Work" "row" "[I" ∈ WA := wa_of (wm1 (List.mem_of_getElem? (i := 101) rfl)) rfl
theorem w104 : Cond.fieldLink RX9 18 "CellWindows$Work" "column" "[I" ∈ WA := wa_of (wm1 (List.mem_of_getElem? (i := 104) rfl)) rfl
theorem w107 : Cond.fieldLink RX9 21 "CellWindows$Work" "birth" "[I" ∈ WA := wa_of (wm1 (List.mem_of_getElem? (i := 107) rfl)) rfl
theorem w109 : Cond.fieldLink RX9 24 "CellWindows$Work" "end" "[I" ∈ WA := wa_of (wm1 (List.mem_of_getElem? (i := 109) rfl)) rfl
theorem w111 : Cond.fieldLink RX9 27 "CellWindows$Work" "cellAt" "[I" ∈ WA := wa_of (wm1 (List.mem_of_getElem? (i := 111) rfl)) rfl
theorem w113 : Cond.fieldLink RX9 30 "CellWindows$Work" "time" "[I" ∈ WA := wa_of (wm1 (List.mem_of_getElem? (i := 113) rfl)) rfl
theorem w114 : Cond.fieldLink RX9 33 "CellWindows$Work" "nextStep" "[I" ∈ WA := wa_of (wm1 (List.mem_of_getElem? (i := 114) rfl)) rfl
theorem w115 : Cond.fieldLink RX9 36 "CellWindows$Work" "change" "[I" ∈ WA := wa_of (wm1 (List.mem_of_getElem? (i := 115) rfl)) rfl
theorem w116 : Cond.fieldLink RX9 39 "CellWindows$Work" "cells" "I" ∈ WA := wa_of (wm1 (List.mem_of_getElem? (i := 116) rfl)) rfl
theorem w138 : Cond.arrayClass ClassFile.FieldType.int ∈ WA := wa_of (wm1 (List.mem_of_getElem? (i := 138) rfl)) rfl
theorem w139 : Cond.classLink RX10 23 RX2 ∈ WA := wa_of (wm1 (List.mem_of_getElem? (i := 139) rfl)) rfl
theorem w140 : Cond.instantiable RX2 7 ∈ WA := wa_of (wm1 (List.mem_of_getElem? (i := 140) rfl)) rfl
theorem w142 : Cond.instanceMethod yX2_init ∈ WA := wa_of (wm1 (List.mem_of_getElem? (i := 142) rfl)) rfl
theorem w143 : Cond.code yX2_init cX2_init 1 (Option.none : Option Jvm.ClassFile.FieldType) ∈ WA := wa_of (wm1 (List.mem_of_getElem? (i := 143) rfl)) rfl
theorem w144 : Cond.methodLink RX2 3 ⟨"java/lang/Object", "<init>", "()V"⟩ ∈ WA := wa_of (wm1 (List.mem_of_getElem? (i := 144) rfl)) rfl
theorem w145 : Cond.fieldLink RX2 9 "CellWindows$Differences" "known" "[Z" ∈ WA := wa_of (wm1 (List.mem_of_getElem? (i := 145) rfl)) rfl
theorem w146 : Cond.fieldLink RX2 15 "CellWindows$Differences" "rowDifference" "[I" ∈ WA := wa_of (wm1 (List.mem_of_getElem? (i := 146) rfl)) rfl
theorem w147 : Cond.fieldLink RX2 19 "CellWindows$Differences" "columnDifference" "[I" ∈ WA := wa_of (wm1 (List.mem_of_getElem? (i := 147) rfl)) rfl
theorem w148 : Cond.fieldLink RX2 22 "CellWindows$Differences" "inLine" "[Z" ∈ WA := wa_of (wm1 (List.mem_of_getElem? (i := 148) rfl)) rfl
theorem w149 : Cond.fieldLink RX2 25 "CellWindows$Differences" "count" "I" ∈ WA := wa_of (wm1 (List.mem_of_getElem? (i := 149) rfl)) rfl
theorem w150 : Cond.fieldLink RX2 29 "CellWindows$Differences" "rows" "I" ∈ WA := wa_of (wm1 (List.mem_of_getElem? (i := 150) rfl)) rfl
theorem w151 : Cond.fieldLink RX2 32 "CellWindows$Differences" "columns" "I" ∈ WA := wa_of (wm1 (List.mem_of_getElem? (i := 151) rfl)) rfl
theorem w167 : Cond.arrayClass ClassFile.FieldType.boolean ∈ WA := wa_of (wm1 (List.mem_of_getElem? (i := 167) rfl)) rfl
theorem w168 : Cond.classLink RX10 30 RX8 ∈ WA := wa_of (wm1 (List.mem_of_getElem? (i := 168) rfl)) rfl
theorem w169 : Cond.instantiable RX8 5 ∈ WA := wa_of (wm1 (List.mem_of_getElem? (i := 169) rfl)) rfl
theorem w171 : Cond.instanceMethod yX8_init ∈ WA := wa_of (wm1 (List.mem_of_getElem? (i := 171) rfl)) rfl
theorem w172 : Cond.code yX8_init cX8_init 1 (Option.none : Option Jvm.ClassFile.FieldType) ∈ WA := wa_of (wm1 (List.mem_of_getElem? (i := 172) rfl)) rfl
theorem w173 : Cond.methodLink RX8 1 ⟨"java/lang/Object", "<init>", "()V"⟩ ∈ WA := wa_of (wm1 (List.mem_of_getElem? (i := 173) rfl)) rfl
theorem w174 : Cond.fieldLink RX8 7 "CellWindows$Kind" "WHOLE" "LCellWindows$Kind;" ∈ WA := wa_of (wm1 (List.mem_of_getElem? (i := 174) rfl)) rfl
theorem w176 : Cond.fieldLink RX8 13 "CellWindows$Window" "kind" "LCellWindows$Kind;" ∈ WA := wa_of (wm1 (List.mem_of_getElem? (i := 176) rfl)) rfl
theorem w177 : Cond.fieldLink RX8 18 "CellWindows$Window" "modulus" "I" ∈ WA := wa_of (wm1 (List.mem_of_getElem? (i := 177) rfl)) rfl
theorem w179 : Cond.fieldLink RX8 22 "CellWindows$Window" "rowModulus" "I" ∈ WA := wa_of (wm1 (List.mem_of_getElem? (i := 179) rfl)) rfl
theorem w181 : Cond.fieldLink RX8 25 "CellWindows$Window" "columnModulus" "I" ∈ WA := wa_of (wm1 (List.mem_of_getElem? (i := 181) rfl)) rfl
theorem w183 : Cond.fieldLink RX8 28 "CellWindows$Window" "slant" "I" ∈ WA := wa_of (wm1 (List.mem_of_getElem? (i := 183) rfl)) rfl
theorem w196 : Cond.classLink RX10 37 RX4 ∈ WA := wa_of (wm1 (List.mem_of_getElem? (i := 196) rfl)) rfl
theorem w197 : Cond.instantiable RX4 2 ∈ WA := wa_of (wm1 (List.mem_of_getElem? (i := 197) rfl)) rfl
theorem w198 : Cond.methodLink RX10 39 yX4_init ∈ WA := wa_of (wm1 (List.mem_of_getElem? (i := 198) rfl)) rfl
theorem w199 : Cond.instanceMethod yX4_init ∈ WA := wa_of (wm1 (List.mem_of_getElem? (i := 199) rfl)) rfl
theorem w200 : Cond.code yX4_init cX4_init 2 (Option.none : Option Jvm.ClassFile.FieldType) ∈ WA := wa_of (wm1 (List.mem_of_getElem? (i := 200) rfl)) rfl
theorem w201 : Cond.methodLink RX4 3 ⟨"java/lang/Object", "<init>", "()V"⟩ ∈ WA := wa_of (wm1 (List.mem_of_getElem? (i := 201) rfl)) rfl
theorem w202 : Cond.classLink RX4 15 "[[I" ∈ WA := wa_of (wm1 (List.mem_of_getElem? (i := 202) rfl)) rfl
theorem w204 : Cond.fieldLink RX4 9 "CellWindows$Machine" "contracted" "Z" ∈ WA := wa_of (wm1 (List.mem_of_getElem? (i := 204) rfl)) rfl
theorem w205 : Cond.fieldLink RX4 17 "CellWindows$Machine" "kept" "[[I" ∈ WA := wa_of (wm1 (List.mem_of_getElem? (i := 205) rfl)) rfl
theorem w211 : Cond.classLink RX10 49 RX1 ∈ WA := wa_of (wm1 (List.mem_of_getElem? (i := 211) rfl)) rfl
theorem w212 : Cond.instantiable RX1 4 ∈ WA := wa_of (wm1 (List.mem_of_getElem? (i := 212) rfl)) rfl
theorem w214 : Cond.instanceMethod yX1_init ∈ WA := wa_of (wm1 (List.mem_of_getElem? (i := 214) rfl)) rfl
theorem w215 : Cond.code yX1_init cX1_init 1 (Option.none : Option Jvm.ClassFile.FieldType) ∈ WA := wa_of (wm1 (List.mem_of_getElem? (i := 215) rfl)) rfl
theorem w216 : Cond.methodLink RX1 1 ⟨"java/lang/Object", "<init>", "()V"⟩ ∈ WA := wa_of (wm1 (List.mem_of_getElem? (i := 216) rfl)) rfl
theorem w217 : Cond.fieldLink RX1 7 "CellWindows$Best" "found" "Z" ∈ WA := wa_of (wm1 (List.mem_of_getElem? (i := 217) rfl)) rfl
theorem w219 : Cond.fieldLink RX1 13 "CellWindows$Best" "rowWeight" "I" ∈ WA := wa_of (wm1 (List.mem_of_getElem? (i := 219) rfl)) rfl
theorem w221 : Cond.fieldLink RX1 17 "CellWindows$Best" "columnWeight" "I" ∈ WA := wa_of (wm1 (List.mem_of_getElem? (i := 221) rfl)) rfl
theorem w223 : Cond.fieldLink RX1 20 "CellWindows$Best" "room" "I" ∈ WA := wa_of (wm1 (List.mem_of_getElem? (i := 223) rfl)) rfl
theorem w234 : Cond.fieldLink RX10 12 "CellWindows" "program" "LCellWindows$Program;" ∈ WA := wa_of (wm1 (List.mem_of_getElem? (i := 234) rfl)) rfl
theorem w235 : Cond.fieldLink RX10 19 "CellWindows" "work" "LCellWindows$Work;" ∈ WA := wa_of (wm1 (List.mem_of_getElem? (i := 235) rfl)) rfl
theorem w236 : Cond.fieldLink RX10 26 "CellWindows" "differences" "LCellWindows$Differences;" ∈ WA := wa_of (wm1 (List.mem_of_getElem? (i := 236) rfl)) rfl
theorem w237 : Cond.fieldLink RX10 33 "CellWindows" "least" "LCellWindows$Window;" ∈ WA := wa_of (wm1 (List.mem_of_getElem? (i := 237) rfl)) rfl
theorem w238 : Cond.fieldLink RX10 42 "CellWindows" "plainMachine" "LCellWindows$Machine;" ∈ WA := wa_of (wm1 (List.mem_of_getElem? (i := 238) rfl)) rfl
theorem w239 : Cond.fieldLink RX10 46 "CellWindows" "contractedMachine" "LCellWindows$Machine;" ∈ WA := wa_of (wm1 (List.mem_of_getElem? (i := 239) rfl)) rfl
theorem w240 : Cond.fieldLink RX10 52 "CellWindows" "best" "LCellWindows$Best;" ∈ WA := wa_of (wm2 (List.mem_of_getElem? (i := 0) rfl)) rfl
theorem w241 : Cond.fieldLink RX10 56 "CellWindows" "rowWeight" "I" ∈ WA := wa_of (wm2 (List.mem_of_getElem? (i := 1) rfl)) rfl
theorem w242 : Cond.fieldLink RX10 60 "CellWindows" "columnWeight" "I" ∈ WA := wa_of (wm2 (List.mem_of_getElem? (i := 2) rfl)) rfl
theorem w262 : Cond.methodLink RL 166 yX10_isAllowed ∈ WA := wa_of (wm2 (List.mem_of_getElem? (i := 22) rfl)) rfl
theorem w263 : Cond.instanceMethod yX10_isAllowed ∈ WA := wa_of (wm2 (List.mem_of_getElem? (i := 23) rfl)) rfl
theorem w264 : Cond.selects RX10 yX10_isAllowed yX10_isAllowed ∈ WA := wa_of (wm2 (List.mem_of_getElem? (i := 24) rfl)) rfl
theorem w265 : Cond.code yX10_isAllowed cX10_isAllowed 1 (Option.some Jvm.ClassFile.FieldType.boolean) ∈ WA := wa_of (wm2 (List.mem_of_getElem? (i := 25) rfl)) rfl
theorem w266 : Cond.methodLink RX10 134 yX5_allows ∈ WA := wa_of (wm2 (List.mem_of_getElem? (i := 26) rfl)) rfl
theorem w267 : Cond.instanceMethod yX5_allows ∈ WA := wa_of (wm2 (List.mem_of_getElem? (i := 27) rfl)) rfl
theorem w268 : Cond.selects RX5 yX5_allows yX5_allows ∈ WA := wa_of (wm2 (List.mem_of_getElem? (i := 28) rfl)) rfl
theorem w269 : Cond.code yX5_allows cX5_allows 6 (Option.some Jvm.ClassFile.FieldType.boolean) ∈ WA := wa_of (wm2 (List.mem_of_getElem? (i := 29) rfl)) rfl
theorem w270 : Cond.methodLink RX5 28 yJx4a65c_size_8abf5 ∈ WA := wa_of (wm2 (List.mem_of_getElem? (i := 30) rfl)) rfl
theorem w271 : Cond.instanceMethod yJx4a65c_size_8abf5 ∈ WA := wa_of (wm2 (List.mem_of_getElem? (i := 31) rfl)) rfl
theorem w272 : Cond.selects RJx4a65c yJx4a65c_size_8abf5 yJx4a65c_size_8abf5 ∈ WA := wa_of (wm2 (List.mem_of_getElem? (i := 32) rfl)) rfl
theorem w273 : Cond.code yJx4a65c_size_8abf5 cJx4a65c_size_8abf5 1 (Option.some Jvm.ClassFile.FieldType.int) ∈ WA := wa_of (wm2 (List.mem_of_getElem? (i := 33) rfl)) rfl
theorem w274 : Cond.methodLink RX5 36 yJx4a65c_get_915e3 ∈ WA := wa_of (wm2 (List.mem_of_getElem? (i := 34) rfl)) rfl
theorem w275 : Cond.instanceMethod yJx4a65c_get_915e3 ∈ WA := wa_of (wm2 (List.mem_of_getElem? (i := 35) rfl)) rfl
theorem w276 : Cond.selects RJx4a65c yJx4a65c_get_915e3 yJx4a65c_get_915e3 ∈ WA := wa_of (wm2 (List.mem_of_getElem? (i := 36) rfl)) rfl
theorem w277 : Cond.code yJx4a65c_get_915e3 cJx4a65c_get_915e3 2 (Option.some (Jvm.ClassFile.FieldType.object "java/lang/Object")) ∈ WA := wa_of (wm2 (List.mem_of_getElem? (i := 37) rfl)) rfl
theorem w278 : Cond.methodLink RJx4a65c 118 yJ15_checkIndex_7cf53 ∈ WA := wa_of (wm2 (List.mem_of_getElem? (i := 38) rfl)) rfl
theorem w279 : Cond.static yJ15_checkIndex_7cf53 ∈ WA := wa_of (wm2 (List.mem_of_getElem? (i := 39) rfl)) rfl
theorem w280 : Cond.code yJ15_checkIndex_7cf53 cJ15_checkIndex_7cf53 2 (Option.some Jvm.ClassFile.FieldType.int) ∈ WA := wa_of (wm2 (List.mem_of_getElem? (i := 40) rfl)) rfl
theorem w281 : Cond.methodLink RJ15 105 yJ3_checkIndex_8e157 ∈ WA := wa_of (wm2 (List.mem_of_getElem? (i := 41) rfl)) rfl
theorem w282 : Cond.static yJ3_checkIndex_8e157 ∈ WA := wa_of (wm2 (List.mem_of_getElem? (i := 42) rfl)) rfl
theorem w283 : Cond.code yJ3_checkIndex_8e157 cJ3_checkIndex_8e157 3 (Option.some Jvm.ClassFile.FieldType.int) ∈ WA := wa_of (wm2 (List.mem_of_getElem? (i := 43) rfl)) rfl
theorem w284 : Cond.methodLink RJx4a65c 123 yJx4a65c_elementData_915e3 ∈ WA := wa_of (wm2 (List.mem_of_getElem? (i := 44) rfl)) rfl
theorem w285 : Cond.instanceMethod yJx4a65c_elementData_915e3 ∈ WA := wa_of (wm2 (List.mem_of_getElem? (i := 45) rfl)) rfl
theorem w286 : Cond.selects RJx4a65c yJx4a65c_elementData_915e3 yJx4a65c_elementData_915e3 ∈ WA := wa_of (wm2 (List.mem_of_getElem? (i := 46) rfl)) rfl
theorem w287 : Cond.code yJx4a65c_elementData_915e3 cJx4a65c_elementData_915e3 2 (Option.some (Jvm.ClassFile.FieldType.object "java/lang/Object")) ∈ WA := wa_of (wm2 (List.mem_of_getElem? (i := 47) rfl)) rfl
theorem w288 : Cond.classLink RX5 40 RX7 ∈ WA := wa_of (wm2 (List.mem_of_getElem? (i := 48) rfl)) rfl
theorem w289 : Cond.classLink RX5 45 RX6 ∈ WA := wa_of (wm2 (List.mem_of_getElem? (i := 49) rfl)) rfl
theorem w290 : Cond.methodLink RX5 47 yX5_comesLater ∈ WA := wa_of (wm2 (List.mem_of_getElem? (i := 50) rfl)) rfl
theorem w291 : Cond.instanceMethod yX5_comesLater ∈ WA := wa_of (wm2 (List.mem_of_getElem? (i := 51) rfl)) rfl
theorem w292 : Cond.selects RX5 yX5_comesLater yX5_comesLater ∈ WA := wa_of (wm2 (List.mem_of_getElem? (i := 52) rfl)) rfl
theorem w293 : Cond.code yX5_comesLater cX5_comesLater 6 (Option.some Jvm.ClassFile.FieldType.boolean) ∈ WA := wa_of (wm2 (List.mem_of_getElem? (i := 53) rfl)) rfl
theorem w294 : Cond.methodLink RX5 57 yJ9_abs_0f7a4 ∈ WA := wa_of (wm2 (List.mem_of_getElem? (i := 54) rfl)) rfl
theorem w295 : Cond.static yJ9_abs_0f7a4 ∈ WA := wa_of (wm2 (List.mem_of_getElem? (i := 55) rfl)) rfl
theorem w296 : Cond.code yJ9_abs_0f7a4 cJ9_abs_0f7a4 1 (Option.some Jvm.ClassFile.FieldType.int) ∈ WA := wa_of (wm2 (List.mem_of_getElem? (i := 56) rfl)) rfl
theorem w297 : Cond.methodLink RL 177 yX10_steps ∈ WA := wa_of (wm2 (List.mem_of_getElem? (i := 57) rfl)) rfl
theorem w298 : Cond.instanceMethod yX10_steps ∈ WA := wa_of (wm2 (List.mem_of_getElem? (i := 58) rfl)) rfl
theorem w299 : Cond.selects RX10 yX10_steps yX10_steps ∈ WA := wa_of (wm2 (List.mem_of_getElem? (i := 59) rfl)) rfl
theorem w300 : Cond.code yX10_steps cX10_steps 1 (Option.some Jvm.ClassFile.FieldType.int) ∈ WA := wa_of (wm2 (List.mem_of_getElem? (i := 60) rfl)) rfl
theorem w301 : Cond.methodLink RX10 147 yX5_cells ∈ WA := wa_of (wm2 (List.mem_of_getElem? (i := 61) rfl)) rfl
theorem w302 : Cond.instanceMethod yX5_cells ∈ WA := wa_of (wm2 (List.mem_of_getElem? (i := 62) rfl)) rfl
theorem w303 : Cond.selects RX5 yX5_cells yX5_cells ∈ WA := wa_of (wm2 (List.mem_of_getElem? (i := 63) rfl)) rfl
theorem w304 : Cond.code yX5_cells cX5_cells 1 (Option.some Jvm.ClassFile.FieldType.int) ∈ WA := wa_of (wm2 (List.mem_of_getElem? (i := 64) rfl)) rfl
theorem w305 : Cond.methodLink RX5 32 yX5_firstCell ∈ WA := wa_of (wm2 (List.mem_of_getElem? (i := 65) rfl)) rfl
theorem w306 : Cond.instanceMethod yX5_firstCell ∈ WA := wa_of (wm2 (List.mem_of_getElem? (i := 66) rfl)) rfl
theorem w307 : Cond.selects RX5 yX5_firstCell yX5_firstCell ∈ WA := wa_of (wm2 (List.mem_of_getElem? (i := 67) rfl)) rfl
theorem w308 : Cond.code yX5_firstCell cX5_firstCell 2 (Option.some Jvm.ClassFile.FieldType.int) ∈ WA := wa_of (wm2 (List.mem_of_getElem? (i := 68) rfl)) rfl
theorem w309 : Cond.methodLink RL 197 yX10_mostLive ∈ WA := wa_of (wm2 (List.mem_of_getElem? (i := 69) rfl)) rfl
theorem w310 : Cond.instanceMethod yX10_mostLive ∈ WA := wa_of (wm2 (List.mem_of_getElem? (i := 70) rfl)) rfl
theorem w311 : Cond.selects RX10 yX10_mostLive yX10_mostLive ∈ WA := wa_of (wm2 (List.mem_of_getElem? (i := 71) rfl)) rfl
theorem w312 : Cond.code yX10_mostLive cX10_mostLive 1 (Option.some Jvm.ClassFile.FieldType.int) ∈ WA := wa_of (wm2 (List.mem_of_getElem? (i := 72) rfl)) rfl
theorem w313 : Cond.methodLink RX10 154 yX10_arranged ∈ WA := wa_of (wm2 (List.mem_of_getElem? (i := 73) rfl)) rfl
theorem w315 : Cond.instanceMethod yX10_arranged ∈ WA := wa_of (wm2 (List.mem_of_getElem? (i := 75) rfl)) rfl
theorem w316 : Cond.code yX10_arranged cX10_arranged 1 (Option.some (Jvm.ClassFile.FieldType.object "CellWindows$Work")) ∈ WA := wa_of (wm2 (List.mem_of_getElem? (i := 76) rfl)) rfl
theorem w317 : Cond.methodLink RX10 292 yX9_arrange ∈ WA := wa_of (wm2 (List.mem_of_getElem? (i := 77) rfl)) rfl
theorem w318 : Cond.instanceMethod yX9_arrange ∈ WA := wa_of (wm2 (List.mem_of_getElem? (i := 78) rfl)) rfl
theorem w319 : Cond.selects RX9 yX9_arrange yX9_arrange ∈ WA := wa_of (wm2 (List.mem_of_getElem? (i := 79) rfl)) rfl
theorem w320 : Cond.code yX9_arrange cX9_arrange 5 (Option.none : Option Jvm.ClassFile.FieldType) ∈ WA := wa_of (wm2 (List.mem_of_getElem? (i := 80) rfl)) rfl
theorem w321 : Cond.methodLink RX9 43 yX5_cells ∈ WA := wa_of (wm2 (List.mem_of_getElem? (i := 81) rfl)) rfl
theorem w322 : Cond.methodLink RX9 52 yJx4a65c_size_8abf5 ∈ WA := wa_of (wm2 (List.mem_of_getElem? (i := 82) rfl)) rfl
theorem w323 : Cond.methodLink RX9 57 yX9_setTimes ∈ WA := wa_of (wm2 (List.mem_of_getElem? (i := 83) rfl)) rfl
theorem w325 : Cond.instanceMethod yX9_setTimes ∈ WA := wa_of (wm2 (List.mem_of_getElem? (i := 85) rfl)) rfl
theorem w326 : Cond.code yX9_setTimes cX9_setTimes 9 (Option.none : Option Jvm.ClassFile.FieldType) ∈ WA := wa_of (wm2 (List.mem_of_getElem? (i := 86) rfl)) rfl
theorem w327 : Cond.methodLink RX9 68 yJx4a65c_get_915e3 ∈ WA := wa_of (wm2 (List.mem_of_getElem? (i := 87) rfl)) rfl
theorem w328 : Cond.classLink RX9 72 RX7 ∈ WA := wa_of (wm2 (List.mem_of_getElem? (i := 88) rfl)) rfl
theorem w329 : Cond.methodLink RX9 77 yX5_firstCell ∈ WA := wa_of (wm2 (List.mem_of_getElem? (i := 89) rfl)) rfl
theorem w330 : Cond.methodLink RX9 61 yX9_setSteps ∈ WA := wa_of (wm2 (List.mem_of_getElem? (i := 90) rfl)) rfl
theorem w332 : Cond.instanceMethod yX9_setSteps ∈ WA := wa_of (wm2 (List.mem_of_getElem? (i := 92) rfl)) rfl
theorem w333 : Cond.code yX9_setSteps cX9_setSteps 3 (Option.none : Option Jvm.ClassFile.FieldType) ∈ WA := wa_of (wm2 (List.mem_of_getElem? (i := 93) rfl)) rfl
theorem w334 : Cond.methodLink RX9 87 yJ7_fill_53178 ∈ WA := wa_of (wm2 (List.mem_of_getElem? (i := 94) rfl)) rfl
theorem w335 : Cond.static yJ7_fill_53178 ∈ WA := wa_of (wm2 (List.mem_of_getElem? (i := 95) rfl)) rfl
theorem w336 : Cond.code yJ7_fill_53178 cJ7_fill_53178 4 (Option.none : Option Jvm.ClassFile.FieldType) ∈ WA := wa_of (wm2 (List.mem_of_getElem? (i := 96) rfl)) rfl
theorem w337 : Cond.methodLink RX9 64 yX9_setEnds ∈ WA := wa_of (wm2 (List.mem_of_getElem? (i := 97) rfl)) rfl
theorem w339 : Cond.instanceMethod yX9_setEnds ∈ WA := wa_of (wm2 (List.mem_of_getElem? (i := 99) rfl)) rfl
theorem w340 : Cond.code yX9_setEnds cX9_setEnds 5 (Option.none : Option Jvm.ClassFile.FieldType) ∈ WA := wa_of (wm2 (List.mem_of_getElem? (i := 100) rfl)) rfl
theorem w341 : Cond.classLink RX9 100 RX6 ∈ WA := wa_of (wm2 (List.mem_of_getElem? (i := 101) rfl)) rfl
theorem w342 : Cond.methodLink RX9 102 yX9_stretchCellRead ∈ WA := wa_of (wm2 (List.mem_of_getElem? (i := 102) rfl)) rfl
theorem w344 : Cond.instanceMethod yX9_stretchCellRead ∈ WA := wa_of (wm2 (List.mem_of_getElem? (i := 104) rfl)) rfl
theorem w345 : Cond.code yX9_stretchCellRead cX9_stretchCellRead 7 (Option.none : Option Jvm.ClassFile.FieldType) ∈ WA := wa_of (wm2 (List.mem_of_getElem? (i := 105) rfl)) rfl
theorem w346 : Cond.methodLink RX9 112 yX5_hasPoint ∈ WA := wa_of (wm2 (List.mem_of_getElem? (i := 106) rfl)) rfl
theorem w347 : Cond.instanceMethod yX5_hasPoint ∈ WA := wa_of (wm2 (List.mem_of_getElem? (i := 107) rfl)) rfl
theorem w348 : Cond.selects RX5 yX5_hasPoint yX5_hasPoint ∈ WA := wa_of (wm2 (List.mem_of_getElem? (i := 108) rfl)) rfl
theorem w349 : Cond.code yX5_hasPoint cX5_hasPoint 3 (Option.some Jvm.ClassFile.FieldType.boolean) ∈ WA := wa_of (wm2 (List.mem_of_getElem? (i := 109) rfl)) rfl
theorem w350 : Cond.methodLink RX9 119 yX5_cellOf ∈ WA := wa_of (wm2 (List.mem_of_getElem? (i := 110) rfl)) rfl
theorem w351 : Cond.instanceMethod yX5_cellOf ∈ WA := wa_of (wm2 (List.mem_of_getElem? (i := 111) rfl)) rfl
theorem w352 : Cond.selects RX5 yX5_cellOf yX5_cellOf ∈ WA := wa_of (wm2 (List.mem_of_getElem? (i := 112) rfl)) rfl
theorem w353 : Cond.code yX5_cellOf cX5_cellOf 4 (Option.some Jvm.ClassFile.FieldType.int) ∈ WA := wa_of (wm2 (List.mem_of_getElem? (i := 113) rfl)) rfl
theorem w354 : Cond.methodLink RX9 123 yJ9_max_7cf53 ∈ WA := wa_of (wm2 (List.mem_of_getElem? (i := 114) rfl)) rfl
theorem w355 : Cond.static yJ9_max_7cf53 ∈ WA := wa_of (wm2 (List.mem_of_getElem? (i := 115) rfl)) rfl
theorem w356 : Cond.code yJ9_max_7cf53 cJ9_max_7cf53 2 (Option.some Jvm.ClassFile.FieldType.int) ∈ WA := wa_of (wm2 (List.mem_of_getElem? (i := 116) rfl)) rfl
theorem w357 : Cond.methodLink RX10 181 yX9_mostLiveAmong ∈ WA := wa_of (wm2 (List.mem_of_getElem? (i := 117) rfl)) rfl
theorem w358 : Cond.instanceMethod yX9_mostLiveAmong ∈ WA := wa_of (wm2 (List.mem_of_getElem? (i := 118) rfl)) rfl
theorem w359 : Cond.selects RX9 yX9_mostLiveAmong yX9_mostLiveAmong ∈ WA := wa_of (wm2 (List.mem_of_getElem? (i := 119) rfl)) rfl
theorem w360 : Cond.code yX9_mostLiveAmong cX9_mostLiveAmong 6 (Option.some Jvm.ClassFile.FieldType.int) ∈ WA := wa_of (wm2 (List.mem_of_getElem? (i := 120) rfl)) rfl
theorem w361 : Cond.methodLink RL 223 yX10_contract ∈ WA := wa_of (wm2 (List.mem_of_getElem? (i := 121) rfl)) rfl
theorem w362 : Cond.instanceMethod yX10_contract ∈ WA := wa_of (wm2 (List.mem_of_getElem? (i := 122) rfl)) rfl
theorem w363 : Cond.selects RX10 yX10_contract yX10_contract ∈ WA := wa_of (wm2 (List.mem_of_getElem? (i := 123) rfl)) rfl
theorem w364 : Cond.code yX10_contract cX10_contract 2 (Option.some Jvm.ClassFile.FieldType.int) ∈ WA := wa_of (wm2 (List.mem_of_getElem? (i := 124) rfl)) rfl
theorem w365 : Cond.methodLink RX10 71 yJx4a65c_size_8abf5 ∈ WA := wa_of (wm2 (List.mem_of_getElem? (i := 125) rfl)) rfl
theorem w366 : Cond.methodLink RX10 206 yX10_gatherDifferences ∈ WA := wa_of (wm2 (List.mem_of_getElem? (i := 126) rfl)) rfl
theorem w368 : Cond.instanceMethod yX10_gatherDifferences ∈ WA := wa_of (wm2 (List.mem_of_getElem? (i := 128) rfl)) rfl
theorem w369 : Cond.code yX10_gatherDifferences cX10_gatherDifferences 2 (Option.none : Option Jvm.ClassFile.FieldType) ∈ WA := wa_of (wm2 (List.mem_of_getElem? (i := 129) rfl)) rfl
theorem w370 : Cond.methodLink RX10 296 yX2_clear ∈ WA := wa_of (wm2 (List.mem_of_getElem? (i := 130) rfl)) rfl
theorem w371 : Cond.instanceMethod yX2_clear ∈ WA := wa_of (wm2 (List.mem_of_getElem? (i := 131) rfl)) rfl
theorem w372 : Cond.selects RX2 yX2_clear yX2_clear ∈ WA := wa_of (wm2 (List.mem_of_getElem? (i := 132) rfl)) rfl
theorem w373 : Cond.code yX2_clear cX2_clear 3 (Option.none : Option Jvm.ClassFile.FieldType) ∈ WA := wa_of (wm2 (List.mem_of_getElem? (i := 133) rfl)) rfl
theorem w374 : Cond.methodLink RX10 254 yX2_add ∈ WA := wa_of (wm2 (List.mem_of_getElem? (i := 134) rfl)) rfl
theorem w375 : Cond.instanceMethod yX2_add ∈ WA := wa_of (wm2 (List.mem_of_getElem? (i := 135) rfl)) rfl
theorem w376 : Cond.selects RX2 yX2_add yX2_add ∈ WA := wa_of (wm2 (List.mem_of_getElem? (i := 136) rfl)) rfl
theorem w377 : Cond.code yX2_add cX2_add 9 (Option.none : Option Jvm.ClassFile.FieldType) ∈ WA := wa_of (wm2 (List.mem_of_getElem? (i := 137) rfl)) rfl
theorem w378 : Cond.methodLink RX2 39 yX5_firstCell ∈ WA := wa_of (wm2 (List.mem_of_getElem? (i := 138) rfl)) rfl
theorem w379 : Cond.methodLink RX2 43 yX9_inConflict ∈ WA := wa_of (wm2 (List.mem_of_getElem? (i := 139) rfl)) rfl
theorem w380 : Cond.instanceMethod yX9_inConflict ∈ WA := wa_of (wm2 (List.mem_of_getElem? (i := 140) rfl)) rfl
theorem w381 : Cond.selects RX9 yX9_inConflict yX9_inConflict ∈ WA := wa_of (wm2 (List.mem_of_getElem? (i := 141) rfl)) rfl
theorem w382 : Cond.code yX9_inConflict cX9_inConflict 3 (Option.some Jvm.ClassFile.FieldType.boolean) ∈ WA := wa_of (wm2 (List.mem_of_getElem? (i := 142) rfl)) rfl
theorem w383 : Cond.methodLink RX9 129 yX9_isBornWithin ∈ WA := wa_of (wm2 (List.mem_of_getElem? (i := 143) rfl)) rfl
theorem w385 : Cond.instanceMethod yX9_isBornWithin ∈ WA := wa_of (wm2 (List.mem_of_getElem? (i := 145) rfl)) rfl
theorem w386 : Cond.code yX9_isBornWithin cX9_isBornWithin 3 (Option.some Jvm.ClassFile.FieldType.boolean) ∈ WA := wa_of (wm2 (List.mem_of_getElem? (i := 146) rfl)) rfl
theorem w387 : Cond.methodLink RX2 55 yX2_addOne ∈ WA := wa_of (wm2 (List.mem_of_getElem? (i := 147) rfl)) rfl
theorem w389 : Cond.instanceMethod yX2_addOne ∈ WA := wa_of (wm2 (List.mem_of_getElem? (i := 149) rfl)) rfl
theorem w390 : Cond.code yX2_addOne cX2_addOne 4 (Option.none : Option Jvm.ClassFile.FieldType) ∈ WA := wa_of (wm2 (List.mem_of_getElem? (i := 150) rfl)) rfl
theorem w391 : Cond.methodLink RX10 96 yJx4a65c_get_915e3 ∈ WA := wa_of (wm2 (List.mem_of_getElem? (i := 151) rfl)) rfl
theorem w392 : Cond.classLink RX10 84 RX7 ∈ WA := wa_of (wm2 (List.mem_of_getElem? (i := 152) rfl)) rfl
theorem w393 : Cond.methodLink RX10 209 yX10_keepSmallest ∈ WA := wa_of (wm2 (List.mem_of_getElem? (i := 153) rfl)) rfl
theorem w395 : Cond.instanceMethod yX10_keepSmallest ∈ WA := wa_of (wm2 (List.mem_of_getElem? (i := 155) rfl)) rfl
theorem w396 : Cond.code yX10_keepSmallest cX10_keepSmallest 2 (Option.none : Option Jvm.ClassFile.FieldType) ∈ WA := wa_of (wm2 (List.mem_of_getElem? (i := 156) rfl)) rfl
theorem w397 : Cond.methodLink RX10 191 yX8_becomeWhole ∈ WA := wa_of (wm2 (List.mem_of_getElem? (i := 157) rfl)) rfl
theorem w398 : Cond.instanceMethod yX8_becomeWhole ∈ WA := wa_of (wm2 (List.mem_of_getElem? (i := 158) rfl)) rfl
theorem w399 : Cond.selects RX8 yX8_becomeWhole yX8_becomeWhole ∈ WA := wa_of (wm2 (List.mem_of_getElem? (i := 159) rfl)) rfl
theorem w400 : Cond.code yX8_becomeWhole cX8_becomeWhole 1 (Option.none : Option Jvm.ClassFile.FieldType) ∈ WA := wa_of (wm2 (List.mem_of_getElem? (i := 160) rfl)) rfl
theorem w401 : Cond.methodLink RX10 229 yX2_leastRestModulus ∈ WA := wa_of (wm2 (List.mem_of_getElem? (i := 161) rfl)) rfl
theorem w402 : Cond.instanceMethod yX2_leastRestModulus ∈ WA := wa_of (wm2 (List.mem_of_getElem? (i := 162) rfl)) rfl
theorem w403 : Cond.selects RX2 yX2_leastRestModulus yX2_leastRestModulus ∈ WA := wa_of (wm2 (List.mem_of_getElem? (i := 163) rfl)) rfl
theorem w404 : Cond.code yX2_leastRestModulus cX2_leastRestModulus 3 (Option.some Jvm.ClassFile.FieldType.int) ∈ WA := wa_of (wm2 (List.mem_of_getElem? (i := 164) rfl)) rfl
theorem w405 : Cond.methodLink RX2 65 yX8_becomeRest ∈ WA := wa_of (wm2 (List.mem_of_getElem? (i := 165) rfl)) rfl
theorem w406 : Cond.instanceMethod yX8_becomeRest ∈ WA := wa_of (wm2 (List.mem_of_getElem? (i := 166) rfl)) rfl
theorem w407 : Cond.selects RX8 yX8_becomeRest yX8_becomeRest ∈ WA := wa_of (wm2 (List.mem_of_getElem? (i := 167) rfl)) rfl
theorem w408 : Cond.code yX8_becomeRest cX8_becomeRest 2 (Option.none : Option Jvm.ClassFile.FieldType) ∈ WA := wa_of (wm2 (List.mem_of_getElem? (i := 168) rfl)) rfl
theorem w409 : Cond.fieldLink RX8 31 "CellWindows$Kind" "REST" "LCellWindows$Kind;" ∈ WA := wa_of (wm2 (List.mem_of_getElem? (i := 169) rfl)) rfl
theorem w411 : Cond.methodLink RX2 69 yX2_areKeptApart ∈ WA := wa_of (wm2 (List.mem_of_getElem? (i := 171) rfl)) rfl
theorem w412 : Cond.instanceMethod yX2_areKeptApart ∈ WA := wa_of (wm2 (List.mem_of_getElem? (i := 172) rfl)) rfl
theorem w413 : Cond.selects RX2 yX2_areKeptApart yX2_areKeptApart ∈ WA := wa_of (wm2 (List.mem_of_getElem? (i := 173) rfl)) rfl
theorem w414 : Cond.code yX2_areKeptApart cX2_areKeptApart 3 (Option.some Jvm.ClassFile.FieldType.boolean) ∈ WA := wa_of (wm2 (List.mem_of_getElem? (i := 174) rfl)) rfl
theorem w415 : Cond.methodLink RX2 59 yX8_keepsApart ∈ WA := wa_of (wm2 (List.mem_of_getElem? (i := 175) rfl)) rfl
theorem w416 : Cond.instanceMethod yX8_keepsApart ∈ WA := wa_of (wm2 (List.mem_of_getElem? (i := 176) rfl)) rfl
theorem w417 : Cond.selects RX8 yX8_keepsApart yX8_keepsApart ∈ WA := wa_of (wm2 (List.mem_of_getElem? (i := 177) rfl)) rfl
theorem w418 : Cond.code yX8_keepsApart cX8_keepsApart 4 (Option.some Jvm.ClassFile.FieldType.boolean) ∈ WA := wa_of (wm2 (List.mem_of_getElem? (i := 178) rfl)) rfl
theorem w419 : Cond.fieldLink RX8 40 "CellWindows$1" "$SwitchMap$CellWindows$Kind" "[I" ∈ WA := wa_of (wm2 (List.mem_of_getElem? (i := 179) rfl)) rfl
theorem w421 : Cond.methodLink RX8 46 ⟨"CellWindows$Kind", "ordinal", "()I"⟩ ∈ WA := wa_of (wm2 (List.mem_of_getElem? (i := 181) rfl)) rfl
theorem w424 : Cond.selects RX3 ⟨"CellWindows$Kind", "ordinal", "()I"⟩ yJx29ce0_ordinal_8abf5 ∈ WA := wa_of (wm2 (List.mem_of_getElem? (i := 184) rfl)) rfl
theorem w425 : Cond.instanceMethod yJx29ce0_ordinal_8abf5 ∈ WA := wa_of (wm2 (List.mem_of_getElem? (i := 185) rfl)) rfl
theorem w426 : Cond.code yJx29ce0_ordinal_8abf5 cJx29ce0_ordinal_8abf5 1 (Option.some Jvm.ClassFile.FieldType.int) ∈ WA := wa_of (wm2 (List.mem_of_getElem? (i := 186) rfl)) rfl
theorem w428 : Cond.static yX10_restOf ∈ WA := wa_of (wm2 (List.mem_of_getElem? (i := 188) rfl)) rfl
theorem w429 : Cond.code yX10_restOf cX10_restOf 2 (Option.some Jvm.ClassFile.FieldType.int) ∈ WA := wa_of (wm2 (List.mem_of_getElem? (i := 189) rfl)) rfl
theorem w430 : Cond.methodLink RX10 302 yX10_keepIfSmaller ∈ WA := wa_of (wm2 (List.mem_of_getElem? (i := 190) rfl)) rfl
theorem w432 : Cond.instanceMethod yX10_keepIfSmaller ∈ WA := wa_of (wm2 (List.mem_of_getElem? (i := 192) rfl)) rfl
theorem w433 : Cond.code yX10_keepIfSmaller cX10_keepIfSmaller 3 (Option.none : Option Jvm.ClassFile.FieldType) ∈ WA := wa_of (wm2 (List.mem_of_getElem? (i := 193) rfl)) rfl
theorem w434 : Cond.methodLink RX10 299 yX8_places ∈ WA := wa_of (wm2 (List.mem_of_getElem? (i := 194) rfl)) rfl
theorem w435 : Cond.instanceMethod yX8_places ∈ WA := wa_of (wm2 (List.mem_of_getElem? (i := 195) rfl)) rfl
theorem w436 : Cond.selects RX8 yX8_places yX8_places ∈ WA := wa_of (wm2 (List.mem_of_getElem? (i := 196) rfl)) rfl
theorem w437 : Cond.code yX8_places cX8_places 2 (Option.some Jvm.ClassFile.FieldType.int) ∈ WA := wa_of (wm2 (List.mem_of_getElem? (i := 197) rfl)) rfl
theorem w438 : Cond.fieldLink RX8 34 "CellWindows$Kind" "TWO_RESTS" "LCellWindows$Kind;" ∈ WA := wa_of (wm2 (List.mem_of_getElem? (i := 198) rfl)) rfl
theorem w440 : Cond.methodLink RX10 305 yX8_become ∈ WA := wa_of (wm2 (List.mem_of_getElem? (i := 200) rfl)) rfl
theorem w441 : Cond.instanceMethod yX8_become ∈ WA := wa_of (wm2 (List.mem_of_getElem? (i := 201) rfl)) rfl
theorem w442 : Cond.selects RX8 yX8_become yX8_become ∈ WA := wa_of (wm2 (List.mem_of_getElem? (i := 202) rfl)) rfl
theorem w443 : Cond.code yX8_become cX8_become 2 (Option.none : Option Jvm.ClassFile.FieldType) ∈ WA := wa_of (wm2 (List.mem_of_getElem? (i := 203) rfl)) rfl
theorem w444 : Cond.methodLink RX10 236 yX2_findTwoRests ∈ WA := wa_of (wm2 (List.mem_of_getElem? (i := 204) rfl)) rfl
theorem w445 : Cond.instanceMethod yX2_findTwoRests ∈ WA := wa_of (wm2 (List.mem_of_getElem? (i := 205) rfl)) rfl
theorem w446 : Cond.selects RX2 yX2_findTwoRests yX2_findTwoRests ∈ WA := wa_of (wm2 (List.mem_of_getElem? (i := 206) rfl)) rfl
theorem w447 : Cond.code yX2_findTwoRests cX2_findTwoRests 6 (Option.none : Option Jvm.ClassFile.FieldType) ∈ WA := wa_of (wm2 (List.mem_of_getElem? (i := 207) rfl)) rfl
theorem w448 : Cond.methodLink RX2 82 yX8_becomeTwoRests ∈ WA := wa_of (wm2 (List.mem_of_getElem? (i := 208) rfl)) rfl
theorem w449 : Cond.instanceMethod yX8_becomeTwoRests ∈ WA := wa_of (wm2 (List.mem_of_getElem? (i := 209) rfl)) rfl
theorem w450 : Cond.selects RX8 yX8_becomeTwoRests yX8_becomeTwoRests ∈ WA := wa_of (wm2 (List.mem_of_getElem? (i := 210) rfl)) rfl
theorem w451 : Cond.code yX8_becomeTwoRests cX8_becomeTwoRests 3 (Option.none : Option Jvm.ClassFile.FieldType) ∈ WA := wa_of (wm2 (List.mem_of_getElem? (i := 211) rfl)) rfl
theorem w452 : Cond.methodLink RX10 245 yX2_findSlant ∈ WA := wa_of (wm2 (List.mem_of_getElem? (i := 212) rfl)) rfl
theorem w453 : Cond.instanceMethod yX2_findSlant ∈ WA := wa_of (wm2 (List.mem_of_getElem? (i := 213) rfl)) rfl
theorem w454 : Cond.selects RX2 yX2_findSlant yX2_findSlant ∈ WA := wa_of (wm2 (List.mem_of_getElem? (i := 214) rfl)) rfl
theorem w455 : Cond.code yX2_findSlant cX2_findSlant 4 (Option.none : Option Jvm.ClassFile.FieldType) ∈ WA := wa_of (wm2 (List.mem_of_getElem? (i := 215) rfl)) rfl
theorem w456 : Cond.methodLink RX2 85 yX8_becomeSlant ∈ WA := wa_of (wm2 (List.mem_of_getElem? (i := 216) rfl)) rfl
theorem w457 : Cond.instanceMethod yX8_becomeSlant ∈ WA := wa_of (wm2 (List.mem_of_getElem? (i := 217) rfl)) rfl
theorem w458 : Cond.selects RX8 yX8_becomeSlant yX8_becomeSlant ∈ WA := wa_of (wm2 (List.mem_of_getElem? (i := 218) rfl)) rfl
theorem w459 : Cond.code yX8_becomeSlant cX8_becomeSlant 3 (Option.none : Option Jvm.ClassFile.FieldType) ∈ WA := wa_of (wm2 (List.mem_of_getElem? (i := 219) rfl)) rfl
theorem w460 : Cond.fieldLink RX8 37 "CellWindows$Kind" "SLANT" "LCellWindows$Kind;" ∈ WA := wa_of (wm2 (List.mem_of_getElem? (i := 220) rfl)) rfl
theorem w462 : Cond.methodLink RX10 213 yX10_room ∈ WA := wa_of (wm2 (List.mem_of_getElem? (i := 222) rfl)) rfl
theorem w463 : Cond.instanceMethod yX10_room ∈ WA := wa_of (wm2 (List.mem_of_getElem? (i := 223) rfl)) rfl
theorem w464 : Cond.selects RX10 yX10_room yX10_room ∈ WA := wa_of (wm2 (List.mem_of_getElem? (i := 224) rfl)) rfl
theorem w465 : Cond.code yX10_room cX10_room 3 (Option.some Jvm.ClassFile.FieldType.int) ∈ WA := wa_of (wm2 (List.mem_of_getElem? (i := 225) rfl)) rfl
theorem w466 : Cond.methodLink RX10 194 yX10_placesOf ∈ WA := wa_of (wm2 (List.mem_of_getElem? (i := 226) rfl)) rfl
theorem w468 : Cond.instanceMethod yX10_placesOf ∈ WA := wa_of (wm2 (List.mem_of_getElem? (i := 228) rfl)) rfl
theorem w469 : Cond.code yX10_placesOf cX10_placesOf 2 (Option.some Jvm.ClassFile.FieldType.int) ∈ WA := wa_of (wm2 (List.mem_of_getElem? (i := 229) rfl)) rfl
theorem w470 : Cond.methodLink RL 230 yX10_room ∈ WA := wa_of (wm2 (List.mem_of_getElem? (i := 230) rfl)) rfl
theorem w471 : Cond.methodLink RL 267 yX10_firstWrongStep ∈ WA := wa_of (wm2 (List.mem_of_getElem? (i := 231) rfl)) rfl
theorem w472 : Cond.instanceMethod yX10_firstWrongStep ∈ WA := wa_of (wm2 (List.mem_of_getElem? (i := 232) rfl)) rfl
theorem w473 : Cond.selects RX10 yX10_firstWrongStep yX10_firstWrongStep ∈ WA := wa_of (wm2 (List.mem_of_getElem? (i := 233) rfl)) rfl
theorem w474 : Cond.code yX10_firstWrongStep cX10_firstWrongStep 3 (Option.some Jvm.ClassFile.FieldType.int) ∈ WA := wa_of (wm2 (List.mem_of_getElem? (i := 234) rfl)) rfl
theorem w475 : Cond.methodLink RX10 261 yX4_empty ∈ WA := wa_of (wm2 (List.mem_of_getElem? (i := 235) rfl)) rfl
theorem w476 : Cond.instanceMethod yX4_empty ∈ WA := wa_of (wm2 (List.mem_of_getElem? (i := 236) rfl)) rfl
theorem w477 : Cond.selects RX4 yX4_empty yX4_empty ∈ WA := wa_of (wm2 (List.mem_of_getElem? (i := 237) rfl)) rfl
theorem w478 : Cond.code yX4_empty cX4_empty 2 (Option.none : Option Jvm.ClassFile.FieldType) ∈ WA := wa_of (wm2 (List.mem_of_getElem? (i := 238) rfl)) rfl
theorem w479 : Cond.methodLink RX4 20 yJ7_fill_53178 ∈ WA := wa_of (wm2 (List.mem_of_getElem? (i := 239) rfl)) rfl
theorem w480 : Cond.methodLink RX10 264 yX4_doStep ∈ WA := wa_of (wm3 (List.mem_of_getElem? (i := 0) rfl)) rfl
theorem w481 : Cond.instanceMethod yX4_doStep ∈ WA := wa_of (wm3 (List.mem_of_getElem? (i := 1) rfl)) rfl
theorem w482 : Cond.selects RX4 yX4_doStep yX4_doStep ∈ WA := wa_of (wm3 (List.mem_of_getElem? (i := 2) rfl)) rfl
theorem w483 : Cond.code yX4_doStep cX4_doStep 11 (Option.some Jvm.ClassFile.FieldType.int) ∈ WA := wa_of (wm3 (List.mem_of_getElem? (i := 3) rfl)) rfl
theorem w484 : Cond.methodLink RX4 44 yJx4a65c_get_915e3 ∈ WA := wa_of (wm3 (List.mem_of_getElem? (i := 4) rfl)) rfl
theorem w485 : Cond.classLink RX4 50 RX7 ∈ WA := wa_of (wm3 (List.mem_of_getElem? (i := 5) rfl)) rfl
theorem w486 : Cond.methodLink RX4 59 yJx4a65c_size_8abf5 ∈ WA := wa_of (wm3 (List.mem_of_getElem? (i := 6) rfl)) rfl
theorem w487 : Cond.classLink RX4 63 RX6 ∈ WA := wa_of (wm3 (List.mem_of_getElem? (i := 7) rfl)) rfl
theorem w488 : Cond.methodLink RX4 77 yX4_taken ∈ WA := wa_of (wm3 (List.mem_of_getElem? (i := 8) rfl)) rfl
theorem w490 : Cond.instanceMethod yX4_taken ∈ WA := wa_of (wm3 (List.mem_of_getElem? (i := 10) rfl)) rfl
theorem w491 : Cond.code yX4_taken cX4_taken 6 (Option.some Jvm.ClassFile.FieldType.int) ∈ WA := wa_of (wm3 (List.mem_of_getElem? (i := 11) rfl)) rfl
theorem w492 : Cond.methodLink RX4 84 yX5_hasPoint ∈ WA := wa_of (wm3 (List.mem_of_getElem? (i := 12) rfl)) rfl
theorem w493 : Cond.methodLink RX4 88 yJ9_floorMod_7cf53 ∈ WA := wa_of (wm3 (List.mem_of_getElem? (i := 13) rfl)) rfl
theorem w494 : Cond.static yJ9_floorMod_7cf53 ∈ WA := wa_of (wm3 (List.mem_of_getElem? (i := 14) rfl)) rfl
theorem w495 : Cond.code yJ9_floorMod_7cf53 cJ9_floorMod_7cf53 3 (Option.some Jvm.ClassFile.FieldType.int) ∈ WA := wa_of (wm3 (List.mem_of_getElem? (i := 15) rfl)) rfl
theorem w496 : Cond.methodLink RX4 81 yX4_placeIn ∈ WA := wa_of (wm3 (List.mem_of_getElem? (i := 16) rfl)) rfl
theorem w498 : Cond.instanceMethod yX4_placeIn ∈ WA := wa_of (wm3 (List.mem_of_getElem? (i := 18) rfl)) rfl
theorem w499 : Cond.code yX4_placeIn cX4_placeIn 5 (Option.some Jvm.ClassFile.FieldType.int) ∈ WA := wa_of (wm3 (List.mem_of_getElem? (i := 19) rfl)) rfl
theorem w500 : Cond.methodLink RX4 101 yX8_placeFor ∈ WA := wa_of (wm3 (List.mem_of_getElem? (i := 20) rfl)) rfl
theorem w501 : Cond.instanceMethod yX8_placeFor ∈ WA := wa_of (wm3 (List.mem_of_getElem? (i := 21) rfl)) rfl
theorem w502 : Cond.selects RX8 yX8_placeFor yX8_placeFor ∈ WA := wa_of (wm3 (List.mem_of_getElem? (i := 22) rfl)) rfl
theorem w503 : Cond.code yX8_placeFor cX8_placeFor 4 (Option.some Jvm.ClassFile.FieldType.int) ∈ WA := wa_of (wm3 (List.mem_of_getElem? (i := 23) rfl)) rfl
theorem w504 : Cond.methodLink RL 136 yL_addStatement ∈ WA := wa_of (wm3 (List.mem_of_getElem? (i := 24) rfl)) rfl
theorem w505 : Cond.static yL_addStatement ∈ WA := wa_of (wm3 (List.mem_of_getElem? (i := 25) rfl)) rfl
theorem w507 : Cond.classLink RL 13 "java/lang/IllegalArgumentException" ∈ WA := wa_of (wm3 (List.mem_of_getElem? (i := 27) rfl)) rfl
theorem w508 : Cond.classLink RL 15 "java/lang/IllegalStateException" ∈ WA := wa_of (wm3 (List.mem_of_getElem? (i := 28) rfl)) rfl
theorem w509 : Cond.methodLink RL 7 yX10_addStatement ∈ WA := wa_of (wm3 (List.mem_of_getElem? (i := 29) rfl)) rfl
theorem w510 : Cond.instanceMethod yX10_addStatement ∈ WA := wa_of (wm3 (List.mem_of_getElem? (i := 30) rfl)) rfl
theorem w511 : Cond.selects RX10 yX10_addStatement yX10_addStatement ∈ WA := wa_of (wm3 (List.mem_of_getElem? (i := 31) rfl)) rfl
theorem w512 : Cond.code yX10_addStatement cX10_addStatement 2 (Option.some Jvm.ClassFile.FieldType.int) ∈ WA := wa_of (wm3 (List.mem_of_getElem? (i := 32) rfl)) rfl
theorem w513 : Cond.methodLink RX10 63 yX10_requireRange ∈ WA := wa_of (wm3 (List.mem_of_getElem? (i := 33) rfl)) rfl
theorem w514 : Cond.static yX10_requireRange ∈ WA := wa_of (wm3 (List.mem_of_getElem? (i := 34) rfl)) rfl
theorem w515 : Cond.code yX10_requireRange cX10_requireRange 3 (Option.none : Option Jvm.ClassFile.FieldType) ∈ WA := wa_of (wm3 (List.mem_of_getElem? (i := 35) rfl)) rfl
theorem w516 : Cond.classLink RX10 275 "java/lang/IllegalArgumentException" ∈ WA := wa_of (wm3 (List.mem_of_getElem? (i := 36) rfl)) rfl
theorem w517 : Cond.instantiable "java/lang/IllegalArgumentException" 6 ∈ WA := wa_of (wm3 (List.mem_of_getElem? (i := 37) rfl)) rfl
theorem w525 : Cond.selects "java/lang/IllegalArgumentException" ⟨"java/lang/Throwable", "fillInStackTrace", "(I)Ljava/lang/Throwable;"⟩ ⟨"java/lang/Throwable", "fillInStackTrace", "(I)Ljava/lang/Throwable;"⟩ ∈ WA := wa_of (wm3 (List.mem_of_getElem? (i := 45) rfl)) rfl
theorem w526 : Cond.selects "java/lang/IllegalArgumentException" ⟨"java/lang/Throwable", "fillInStackTrace", "()Ljava/lang/Throwable;"⟩ ⟨"java/lang/Throwable", "fillInStackTrace", "()Ljava/lang/Throwable;"⟩ ∈ WA := wa_of (wm3 (List.mem_of_getElem? (i := 46) rfl)) rfl
theorem w570 : Cond.fieldLink "java/lang/Throwable" 198 "java/lang/Throwable" "backtrace" "Ljava/lang/Object;" ∈ WA := wa_of (wm3 (List.mem_of_getElem? (i := 90) rfl)) rfl
theorem w539 : Cond.instanceMethod ⟨"java/lang/Throwable", "<init>", "()V"⟩ ∈ WA := wa_of (wm3 (List.mem_of_getElem? (i := 59) rfl)) rfl
theorem w540 : Cond.code ⟨"java/lang/Throwable", "<init>", "()V"⟩ prog_27_method_1_code 1 (Option.none : Option Jvm.ClassFile.FieldType) ∈ WA := wa_of (wm3 (List.mem_of_getElem? (i := 60) rfl)) rfl
theorem w541 : Cond.methodLink "java/lang/Throwable" 1 ⟨"java/lang/Object", "<init>", "()V"⟩ ∈ WA := wa_of (wm3 (List.mem_of_getElem? (i := 61) rfl)) rfl
theorem w542 : Cond.fieldLink "java/lang/Throwable" 13 "java/lang/Throwable" "UNASSIGNED_STACK" "[Ljava/lang/StackTraceElement;" ∈ WA := wa_of (wm3 (List.mem_of_getElem? (i := 62) rfl)) rfl
theorem w544 : Cond.fieldLink "java/lang/Throwable" 20 "java/lang/Throwable" "SUPPRESSED_SENTINEL" "Ljava/util/List;" ∈ WA := wa_of (wm3 (List.mem_of_getElem? (i := 64) rfl)) rfl
theorem w546 : Cond.methodLink "java/lang/Throwable" 27 ⟨"java/lang/Throwable", "fillInStackTrace", "()Ljava/lang/Throwable;"⟩ ∈ WA := wa_of (wm3 (List.mem_of_getElem? (i := 66) rfl)) rfl
theorem w547 : Cond.instanceMethod ⟨"java/lang/Throwable", "fillInStackTrace", "()Ljava/lang/Throwable;"⟩ ∈ WA := wa_of (wm3 (List.mem_of_getElem? (i := 67) rfl)) rfl
theorem w549 : Cond.selects "java/lang/IllegalStateException" ⟨"java/lang/Throwable", "fillInStackTrace", "()Ljava/lang/Throwable;"⟩ ⟨"java/lang/Throwable", "fillInStackTrace", "()Ljava/lang/Throwable;"⟩ ∈ WA := wa_of (wm3 (List.mem_of_getElem? (i := 69) rfl)) rfl
theorem w550 : Cond.selects "java/lang/IndexOutOfBoundsException" ⟨"java/lang/Throwable", "fillInStackTrace", "()Ljava/lang/Throwable;"⟩ ⟨"java/lang/Throwable", "fillInStackTrace", "()Ljava/lang/Throwable;"⟩ ∈ WA := wa_of (wm3 (List.mem_of_getElem? (i := 70) rfl)) rfl
theorem w552 : Cond.methodLink "java/lang/Throwable" 202 ⟨"java/lang/Throwable", "fillInStackTrace", "(I)Ljava/lang/Throwable;"⟩ ∈ WA := wa_of (wm3 (List.mem_of_getElem? (i := 72) rfl)) rfl
theorem w554 : Cond.instanceMethod ⟨"java/lang/Throwable", "fillInStackTrace", "(I)Ljava/lang/Throwable;"⟩ ∈ WA := wa_of (wm3 (List.mem_of_getElem? (i := 74) rfl)) rfl
theorem w555 : Cond.instantiable "java/lang/Throwable" 6 ∈ WA := wa_of (wm3 (List.mem_of_getElem? (i := 75) rfl)) rfl
theorem w558 : Cond.methodLink RX10 279 ⟨"java/lang/IllegalArgumentException", "<init>", "(Ljava/lang/String;)V"⟩ ∈ WA := wa_of (wm3 (List.mem_of_getElem? (i := 78) rfl)) rfl
theorem w559 : Cond.instanceMethod ⟨"java/lang/IllegalArgumentException", "<init>", "(Ljava/lang/String;)V"⟩ ∈ WA := wa_of (wm3 (List.mem_of_getElem? (i := 79) rfl)) rfl
theorem w560 : Cond.code ⟨"java/lang/IllegalArgumentException", "<init>", "(Ljava/lang/String;)V"⟩ prog_19_method_2_code 2 (Option.none : Option Jvm.ClassFile.FieldType) ∈ WA := wa_of (wm3 (List.mem_of_getElem? (i := 80) rfl)) rfl
theorem w561 : Cond.methodLink "java/lang/IllegalArgumentException" 7 ⟨"java/lang/RuntimeException", "<init>", "(Ljava/lang/String;)V"⟩ ∈ WA := wa_of (wm3 (List.mem_of_getElem? (i := 81) rfl)) rfl
theorem w562 : Cond.instanceMethod ⟨"java/lang/RuntimeException", "<init>", "(Ljava/lang/String;)V"⟩ ∈ WA := wa_of (wm3 (List.mem_of_getElem? (i := 82) rfl)) rfl
theorem w563 : Cond.code ⟨"java/lang/RuntimeException", "<init>", "(Ljava/lang/String;)V"⟩ prog_24_method_2_code 2 (Option.none : Option Jvm.ClassFile.FieldType) ∈ WA := wa_of (wm3 (List.mem_of_getElem? (i := 83) rfl)) rfl
theorem w564 : Cond.methodLink "java/lang/RuntimeException" 7 ⟨"java/lang/Exception", "<init>", "(Ljava/lang/String;)V"⟩ ∈ WA := wa_of (wm3 (List.mem_of_getElem? (i := 84) rfl)) rfl
theorem w565 : Cond.instanceMethod ⟨"java/lang/Exception", "<init>", "(Ljava/lang/String;)V"⟩ ∈ WA := wa_of (wm3 (List.mem_of_getElem? (i := 85) rfl)) rfl
theorem w566 : Cond.code ⟨"java/lang/Exception", "<init>", "(Ljava/lang/String;)V"⟩ prog_18_method_2_code 2 (Option.none : Option Jvm.ClassFile.FieldType) ∈ WA := wa_of (wm3 (List.mem_of_getElem? (i := 86) rfl)) rfl
theorem w567 : Cond.methodLink "java/lang/Exception" 7 ⟨"java/lang/Throwable", "<init>", "(Ljava/lang/String;)V"⟩ ∈ WA := wa_of (wm3 (List.mem_of_getElem? (i := 87) rfl)) rfl
theorem w568 : Cond.instanceMethod ⟨"java/lang/Throwable", "<init>", "(Ljava/lang/String;)V"⟩ ∈ WA := wa_of (wm3 (List.mem_of_getElem? (i := 88) rfl)) rfl
theorem w569 : Cond.code ⟨"java/lang/Throwable", "<init>", "(Ljava/lang/String;)V"⟩ prog_27_method_2_code 2 (Option.none : Option Jvm.ClassFile.FieldType) ∈ WA := wa_of (wm3 (List.mem_of_getElem? (i := 89) rfl)) rfl
theorem w571 : Cond.fieldLink "java/lang/Throwable" 31 "java/lang/Throwable" "detailMessage" "Ljava/lang/String;" ∈ WA := wa_of (wm3 (List.mem_of_getElem? (i := 91) rfl)) rfl
theorem w572 : Cond.fieldLink "java/lang/Throwable" 7 "java/lang/Throwable" "cause" "Ljava/lang/Throwable;" ∈ WA := wa_of (wm3 (List.mem_of_getElem? (i := 92) rfl)) rfl
theorem w573 : Cond.fieldLink "java/lang/Throwable" 17 "java/lang/Throwable" "stackTrace" "[Ljava/lang/StackTraceElement;" ∈ WA := wa_of (wm3 (List.mem_of_getElem? (i := 93) rfl)) rfl
theorem w574 : Cond.fieldLink "java/lang/Throwable" 24 "java/lang/Throwable" "suppressedExceptions" "Ljava/util/List;" ∈ WA := wa_of (wm3 (List.mem_of_getElem? (i := 94) rfl)) rfl
theorem w583 : Cond.arrayClass ClassFile.FieldType.byte ∈ WA := wa_of (wm3 (List.mem_of_getElem? (i := 103) rfl)) rfl
theorem w584 : Cond.classLink RX10 77 "java/lang/IllegalStateException" ∈ WA := wa_of (wm3 (List.mem_of_getElem? (i := 104) rfl)) rfl
theorem w585 : Cond.instantiable "java/lang/IllegalStateException" 6 ∈ WA := wa_of (wm3 (List.mem_of_getElem? (i := 105) rfl)) rfl
theorem w587 : Cond.selects "java/lang/IllegalStateException" ⟨"java/lang/Throwable", "fillInStackTrace", "(I)Ljava/lang/Throwable;"⟩ ⟨"java/lang/Throwable", "fillInStackTrace", "(I)Ljava/lang/Throwable;"⟩ ∈ WA := wa_of (wm3 (List.mem_of_getElem? (i := 107) rfl)) rfl
theorem w594 : Cond.methodLink RX10 81 ⟨"java/lang/IllegalStateException", "<init>", "(Ljava/lang/String;)V"⟩ ∈ WA := wa_of (wm3 (List.mem_of_getElem? (i := 114) rfl)) rfl
theorem w595 : Cond.instanceMethod ⟨"java/lang/IllegalStateException", "<init>", "(Ljava/lang/String;)V"⟩ ∈ WA := wa_of (wm3 (List.mem_of_getElem? (i := 115) rfl)) rfl
theorem w596 : Cond.code ⟨"java/lang/IllegalStateException", "<init>", "(Ljava/lang/String;)V"⟩ prog_20_method_2_code 2 (Option.none : Option Jvm.ClassFile.FieldType) ∈ WA := wa_of (wm3 (List.mem_of_getElem? (i := 116) rfl)) rfl
theorem w597 : Cond.methodLink "java/lang/IllegalStateException" 7 ⟨"java/lang/RuntimeException", "<init>", "(Ljava/lang/String;)V"⟩ ∈ WA := wa_of (wm3 (List.mem_of_getElem? (i := 117) rfl)) rfl
theorem w600 : Cond.instantiable RX7 5 ∈ WA := wa_of (wm3 (List.mem_of_getElem? (i := 120) rfl)) rfl
theorem w601 : Cond.methodLink RX10 86 yX7_init ∈ WA := wa_of (wm3 (List.mem_of_getElem? (i := 121) rfl)) rfl
theorem w602 : Cond.instanceMethod yX7_init ∈ WA := wa_of (wm3 (List.mem_of_getElem? (i := 122) rfl)) rfl
theorem w603 : Cond.code yX7_init cX7_init 2 (Option.none : Option Jvm.ClassFile.FieldType) ∈ WA := wa_of (wm3 (List.mem_of_getElem? (i := 123) rfl)) rfl
theorem w604 : Cond.methodLink RX7 1 ⟨"java/lang/Object", "<init>", "()V"⟩ ∈ WA := wa_of (wm3 (List.mem_of_getElem? (i := 124) rfl)) rfl
theorem w605 : Cond.classLink RX7 7 RJx4a65c ∈ WA := wa_of (wm3 (List.mem_of_getElem? (i := 125) rfl)) rfl
theorem w606 : Cond.methodLink RX7 9 yJx4a65c_init_da8c8 ∈ WA := wa_of (wm3 (List.mem_of_getElem? (i := 126) rfl)) rfl
theorem w607 : Cond.classLink RX7 16 RX8 ∈ WA := wa_of (wm3 (List.mem_of_getElem? (i := 127) rfl)) rfl
theorem w609 : Cond.fieldLink RX7 31 "CellWindows$Statement" "addend" "I" ∈ WA := wa_of (wm3 (List.mem_of_getElem? (i := 129) rfl)) rfl
theorem w611 : Cond.fieldLink RX7 10 "CellWindows$Statement" "reads" "Ljava/util/ArrayList;" ∈ WA := wa_of (wm3 (List.mem_of_getElem? (i := 131) rfl)) rfl
theorem w616 : Cond.fieldLink RX7 19 "CellWindows$Statement" "window" "LCellWindows$Window;" ∈ WA := wa_of (wm3 (List.mem_of_getElem? (i := 136) rfl)) rfl
theorem w619 : Cond.fieldLink RX7 23 "CellWindows$Statement" "offset" "I" ∈ WA := wa_of (wm3 (List.mem_of_getElem? (i := 139) rfl)) rfl
theorem w623 : Cond.fieldLink RX7 27 "CellWindows$Statement" "lasting" "Z" ∈ WA := wa_of (wm3 (List.mem_of_getElem? (i := 143) rfl)) rfl
theorem w637 : Cond.methodLink RX10 89 yJx4a65c_add_9ea2d ∈ WA := wa_of (wm3 (List.mem_of_getElem? (i := 157) rfl)) rfl
theorem w638 : Cond.instanceMethod yJx4a65c_add_9ea2d ∈ WA := wa_of (wm3 (List.mem_of_getElem? (i := 158) rfl)) rfl
theorem w639 : Cond.selects RJx4a65c yJx4a65c_add_9ea2d yJx4a65c_add_9ea2d ∈ WA := wa_of (wm3 (List.mem_of_getElem? (i := 159) rfl)) rfl
theorem w640 : Cond.code yJx4a65c_add_9ea2d cJx4a65c_add_9ea2d 2 (Option.some Jvm.ClassFile.FieldType.boolean) ∈ WA := wa_of (wm3 (List.mem_of_getElem? (i := 160) rfl)) rfl
theorem w641 : Cond.methodLink RJx4a65c 131 yJx4a65c_add_72be8 ∈ WA := wa_of (wm3 (List.mem_of_getElem? (i := 161) rfl)) rfl
theorem w643 : Cond.instanceMethod yJx4a65c_add_72be8 ∈ WA := wa_of (wm3 (List.mem_of_getElem? (i := 163) rfl)) rfl
theorem w644 : Cond.code yJx4a65c_add_72be8 cJx4a65c_add_72be8 4 (Option.none : Option Jvm.ClassFile.FieldType) ∈ WA := wa_of (wm3 (List.mem_of_getElem? (i := 164) rfl)) rfl
theorem w645 : Cond.methodLink RJx4a65c 129 yJx4a65c_grow_d5877 ∈ WA := wa_of (wm3 (List.mem_of_getElem? (i := 165) rfl)) rfl
theorem w647 : Cond.instanceMethod yJx4a65c_grow_d5877 ∈ WA := wa_of (wm3 (List.mem_of_getElem? (i := 167) rfl)) rfl
theorem w648 : Cond.code yJx4a65c_grow_d5877 cJx4a65c_grow_d5877 1 (Option.some (Jvm.ClassFile.FieldType.array (Jvm.ClassFile.FieldType.object "java/lang/Object"))) ∈ WA := wa_of (wm3 (List.mem_of_getElem? (i := 168) rfl)) rfl
theorem w649 : Cond.methodLink RJx4a65c 69 yJx4a65c_grow_92f84 ∈ WA := wa_of (wm3 (List.mem_of_getElem? (i := 169) rfl)) rfl
theorem w651 : Cond.instanceMethod yJx4a65c_grow_92f84 ∈ WA := wa_of (wm3 (List.mem_of_getElem? (i := 171) rfl)) rfl
theorem w652 : Cond.code yJx4a65c_grow_92f84 cJx4a65c_grow_92f84 4 (Option.some (Jvm.ClassFile.FieldType.array (Jvm.ClassFile.FieldType.object "java/lang/Object"))) ∈ WA := wa_of (wm3 (List.mem_of_getElem? (i := 172) rfl)) rfl
theorem w653 : Cond.methodLink RJx4a65c 73 yJ8_newLength_cabcc ∈ WA := wa_of (wm3 (List.mem_of_getElem? (i := 173) rfl)) rfl
theorem w654 : Cond.static yJ8_newLength_cabcc ∈ WA := wa_of (wm3 (List.mem_of_getElem? (i := 174) rfl)) rfl
theorem w655 : Cond.code yJ8_newLength_cabcc cJ8_newLength_cabcc 4 (Option.some Jvm.ClassFile.FieldType.int) ∈ WA := wa_of (wm3 (List.mem_of_getElem? (i := 175) rfl)) rfl
theorem w656 : Cond.methodLink RJ8 194 yJ9_max_7cf53 ∈ WA := wa_of (wm3 (List.mem_of_getElem? (i := 176) rfl)) rfl
theorem w658 : Cond.methodLink RJ8 201 yJ8_hugeLength_7cf53 ∈ WA := wa_of (wm3 (List.mem_of_getElem? (i := 178) rfl)) rfl
theorem w659 : Cond.static yJ8_hugeLength_7cf53 ∈ WA := wa_of (wm3 (List.mem_of_getElem? (i := 179) rfl)) rfl
theorem w660 : Cond.code yJ8_hugeLength_7cf53 cJ8_hugeLength_7cf53 3 (Option.some Jvm.ClassFile.FieldType.int) ∈ WA := wa_of (wm3 (List.mem_of_getElem? (i := 180) rfl)) rfl
theorem w661 : Cond.methodLink RJx4a65c 66 yJ7_copyOf_1904c ∈ WA := wa_of (wm3 (List.mem_of_getElem? (i := 181) rfl)) rfl
theorem w662 : Cond.static yJ7_copyOf_1904c ∈ WA := wa_of (wm3 (List.mem_of_getElem? (i := 182) rfl)) rfl
theorem w663 : Cond.code yJ7_copyOf_1904c cJ7_copyOf_1904c 2 (Option.some (Jvm.ClassFile.FieldType.array (Jvm.ClassFile.FieldType.object "java/lang/Object"))) ∈ WA := wa_of (wm3 (List.mem_of_getElem? (i := 183) rfl)) rfl
theorem w664 : Cond.methodLink RJ7 86 ⟨"java/lang/Object", "getClass", "()Ljava/lang/Class;"⟩ ∈ WA := wa_of (wm3 (List.mem_of_getElem? (i := 184) rfl)) rfl
theorem w665 : Cond.instanceMethod ⟨"java/lang/Object", "getClass", "()Ljava/lang/Class;"⟩ ∈ WA := wa_of (wm3 (List.mem_of_getElem? (i := 185) rfl)) rfl
theorem w667 : Cond.selects RX10 ⟨"java/lang/Object", "getClass", "()Ljava/lang/Class;"⟩ ⟨"java/lang/Object", "getClass", "()Ljava/lang/Class;"⟩ ∈ WA := wa_of (wm3 (List.mem_of_getElem? (i := 187) rfl)) rfl
theorem w668 : Cond.selects RX1 ⟨"java/lang/Object", "getClass", "()Ljava/lang/Class;"⟩ ⟨"java/lang/Object", "getClass", "()Ljava/lang/Class;"⟩ ∈ WA := wa_of (wm3 (List.mem_of_getElem? (i := 188) rfl)) rfl
theorem w669 : Cond.selects RX2 ⟨"java/lang/Object", "getClass", "()Ljava/lang/Class;"⟩ ⟨"java/lang/Object", "getClass", "()Ljava/lang/Class;"⟩ ∈ WA := wa_of (wm3 (List.mem_of_getElem? (i := 189) rfl)) rfl
theorem w670 : Cond.selects RX3 ⟨"java/lang/Object", "getClass", "()Ljava/lang/Class;"⟩ ⟨"java/lang/Object", "getClass", "()Ljava/lang/Class;"⟩ ∈ WA := wa_of (wm3 (List.mem_of_getElem? (i := 190) rfl)) rfl
theorem w671 : Cond.selects RX4 ⟨"java/lang/Object", "getClass", "()Ljava/lang/Class;"⟩ ⟨"java/lang/Object", "getClass", "()Ljava/lang/Class;"⟩ ∈ WA := wa_of (wm3 (List.mem_of_getElem? (i := 191) rfl)) rfl
theorem w672 : Cond.selects RX5 ⟨"java/lang/Object", "getClass", "()Ljava/lang/Class;"⟩ ⟨"java/lang/Object", "getClass", "()Ljava/lang/Class;"⟩ ∈ WA := wa_of (wm3 (List.mem_of_getElem? (i := 192) rfl)) rfl
theorem w673 : Cond.selects RX6 ⟨"java/lang/Object", "getClass", "()Ljava/lang/Class;"⟩ ⟨"java/lang/Object", "getClass", "()Ljava/lang/Class;"⟩ ∈ WA := wa_of (wm3 (List.mem_of_getElem? (i := 193) rfl)) rfl
theorem w674 : Cond.selects RX7 ⟨"java/lang/Object", "getClass", "()Ljava/lang/Class;"⟩ ⟨"java/lang/Object", "getClass", "()Ljava/lang/Class;"⟩ ∈ WA := wa_of (wm3 (List.mem_of_getElem? (i := 194) rfl)) rfl
theorem w675 : Cond.selects RX8 ⟨"java/lang/Object", "getClass", "()Ljava/lang/Class;"⟩ ⟨"java/lang/Object", "getClass", "()Ljava/lang/Class;"⟩ ∈ WA := wa_of (wm3 (List.mem_of_getElem? (i := 195) rfl)) rfl
theorem w676 : Cond.selects RX9 ⟨"java/lang/Object", "getClass", "()Ljava/lang/Class;"⟩ ⟨"java/lang/Object", "getClass", "()Ljava/lang/Class;"⟩ ∈ WA := wa_of (wm3 (List.mem_of_getElem? (i := 196) rfl)) rfl
theorem w677 : Cond.selects RX11 ⟨"java/lang/Object", "getClass", "()Ljava/lang/Class;"⟩ ⟨"java/lang/Object", "getClass", "()Ljava/lang/Class;"⟩ ∈ WA := wa_of (wm3 (List.mem_of_getElem? (i := 197) rfl)) rfl
theorem w678 : Cond.selects "java/lang/IllegalArgumentException" ⟨"java/lang/Object", "getClass", "()Ljava/lang/Class;"⟩ ⟨"java/lang/Object", "getClass", "()Ljava/lang/Class;"⟩ ∈ WA := wa_of (wm3 (List.mem_of_getElem? (i := 198) rfl)) rfl
theorem w679 : Cond.selects "java/lang/IllegalStateException" ⟨"java/lang/Object", "getClass", "()Ljava/lang/Class;"⟩ ⟨"java/lang/Object", "getClass", "()Ljava/lang/Class;"⟩ ∈ WA := wa_of (wm3 (List.mem_of_getElem? (i := 199) rfl)) rfl
theorem w680 : Cond.selects "java/lang/IndexOutOfBoundsException" ⟨"java/lang/Object", "getClass", "()Ljava/lang/Class;"⟩ ⟨"java/lang/Object", "getClass", "()Ljava/lang/Class;"⟩ ∈ WA := wa_of (wm3 (List.mem_of_getElem? (i := 200) rfl)) rfl
theorem w681 : Cond.selects RJx4a65c ⟨"java/lang/Object", "getClass", "()Ljava/lang/Class;"⟩ ⟨"java/lang/Object", "getClass", "()Ljava/lang/Class;"⟩ ∈ WA := wa_of (wm3 (List.mem_of_getElem? (i := 201) rfl)) rfl
theorem w683 : Cond.methodLink RJ7 300 yJ7_copyOf_6403c ∈ WA := wa_of (wm3 (List.mem_of_getElem? (i := 203) rfl)) rfl
theorem w684 : Cond.static yJ7_copyOf_6403c ∈ WA := wa_of (wm3 (List.mem_of_getElem? (i := 204) rfl)) rfl
theorem w685 : Cond.code yJ7_copyOf_6403c cJ7_copyOf_6403c 4 (Option.some (Jvm.ClassFile.FieldType.array (Jvm.ClassFile.FieldType.object "java/lang/Object"))) ∈ WA := wa_of (wm3 (List.mem_of_getElem? (i := 205) rfl)) rfl
theorem w686 : Cond.classLink RJ7 110 "[Ljava/lang/Object;" ∈ WA := wa_of (wm3 (List.mem_of_getElem? (i := 206) rfl)) rfl
theorem w688 : Cond.classLink RJ7 2 "java/lang/Object" ∈ WA := wa_of (wm3 (List.mem_of_getElem? (i := 208) rfl)) rfl
theorem w689 : Cond.methodLink RJ7 304 yJ9_min_7cf53 ∈ WA := wa_of (wm3 (List.mem_of_getElem? (i := 209) rfl)) rfl
theorem w690 : Cond.static yJ9_min_7cf53 ∈ WA := wa_of (wm3 (List.mem_of_getElem? (i := 210) rfl)) rfl
theorem w691 : Cond.code yJ9_min_7cf53 cJ9_min_7cf53 2 (Option.some Jvm.ClassFile.FieldType.int) ∈ WA := wa_of (wm3 (List.mem_of_getElem? (i := 211) rfl)) rfl
theorem w692 : Cond.methodLink RJ7 150 ⟨"java/lang/System", "arraycopy", "(Ljava/lang/Object;ILjava/lang/Object;II)V"⟩ ∈ WA := wa_of (wm3 (List.mem_of_getElem? (i := 212) rfl)) rfl
theorem w693 : Cond.static ⟨"java/lang/System", "arraycopy", "(Ljava/lang/Object;ILjava/lang/Object;II)V"⟩ ∈ WA := wa_of (wm3 (List.mem_of_getElem? (i := 213) rfl)) rfl
theorem w695 : Cond.methodLink RJx4a65c 79 yJ9_max_7cf53 ∈ WA := wa_of (wm3 (List.mem_of_getElem? (i := 215) rfl)) rfl
theorem w696 : Cond.classLink RJx4a65c 7 "java/lang/Object" ∈ WA := wa_of (wm3 (List.mem_of_getElem? (i := 216) rfl)) rfl
theorem w697 : Cond.methodLink RL 145 yL_addRead ∈ WA := wa_of (wm3 (List.mem_of_getElem? (i := 217) rfl)) rfl
theorem w698 : Cond.static yL_addRead ∈ WA := wa_of (wm3 (List.mem_of_getElem? (i := 218) rfl)) rfl
theorem w700 : Cond.classLink RL 21 "java/lang/IndexOutOfBoundsException" ∈ WA := wa_of (wm3 (List.mem_of_getElem? (i := 220) rfl)) rfl
theorem w701 : Cond.methodLink RL 17 yX10_addRead ∈ WA := wa_of (wm3 (List.mem_of_getElem? (i := 221) rfl)) rfl
theorem w702 : Cond.instanceMethod yX10_addRead ∈ WA := wa_of (wm3 (List.mem_of_getElem? (i := 222) rfl)) rfl
theorem w703 : Cond.selects RX10 yX10_addRead yX10_addRead ∈ WA := wa_of (wm3 (List.mem_of_getElem? (i := 223) rfl)) rfl
theorem w704 : Cond.code yX10_addRead cX10_addRead 7 (Option.some Jvm.ClassFile.FieldType.int) ∈ WA := wa_of (wm3 (List.mem_of_getElem? (i := 224) rfl)) rfl
theorem w705 : Cond.methodLink RX10 93 yX10_requireStatement ∈ WA := wa_of (wm3 (List.mem_of_getElem? (i := 225) rfl)) rfl
theorem w707 : Cond.instanceMethod yX10_requireStatement ∈ WA := wa_of (wm3 (List.mem_of_getElem? (i := 227) rfl)) rfl
theorem w708 : Cond.code yX10_requireStatement cX10_requireStatement 2 (Option.none : Option Jvm.ClassFile.FieldType) ∈ WA := wa_of (wm3 (List.mem_of_getElem? (i := 228) rfl)) rfl
theorem w709 : Cond.classLink RX10 138 "java/lang/IndexOutOfBoundsException" ∈ WA := wa_of (wm3 (List.mem_of_getElem? (i := 229) rfl)) rfl
theorem w710 : Cond.instantiable "java/lang/IndexOutOfBoundsException" 6 ∈ WA := wa_of (wm3 (List.mem_of_getElem? (i := 230) rfl)) rfl
theorem w712 : Cond.selects "java/lang/IndexOutOfBoundsException" ⟨"java/lang/Throwable", "fillInStackTrace", "(I)Ljava/lang/Throwable;"⟩ ⟨"java/lang/Throwable", "fillInStackTrace", "(I)Ljava/lang/Throwable;"⟩ ∈ WA := wa_of (wm3 (List.mem_of_getElem? (i := 232) rfl)) rfl
theorem w719 : Cond.methodLink RX10 142 ⟨"java/lang/IndexOutOfBoundsException", "<init>", "(Ljava/lang/String;)V"⟩ ∈ WA := wa_of (wm3 (List.mem_of_getElem? (i := 239) rfl)) rfl
theorem w720 : Cond.instanceMethod ⟨"java/lang/IndexOutOfBoundsException", "<init>", "(Ljava/lang/String;)V"⟩ ∈ WA := wa_of (wm4 (List.mem_of_getElem? (i := 0) rfl)) rfl
theorem w721 : Cond.code ⟨"java/lang/IndexOutOfBoundsException", "<init>", "(Ljava/lang/String;)V"⟩ prog_21_method_2_code 2 (Option.none : Option Jvm.ClassFile.FieldType) ∈ WA := wa_of (wm4 (List.mem_of_getElem? (i := 1) rfl)) rfl
theorem w722 : Cond.methodLink "java/lang/IndexOutOfBoundsException" 7 ⟨"java/lang/RuntimeException", "<init>", "(Ljava/lang/String;)V"⟩ ∈ WA := wa_of (wm4 (List.mem_of_getElem? (i := 2) rfl)) rfl
theorem w726 : Cond.classLink RX10 105 RX6 ∈ WA := wa_of (wm4 (List.mem_of_getElem? (i := 6) rfl)) rfl
theorem w727 : Cond.instantiable RX6 4 ∈ WA := wa_of (wm4 (List.mem_of_getElem? (i := 7) rfl)) rfl
theorem w728 : Cond.methodLink RX10 107 yX6_init ∈ WA := wa_of (wm4 (List.mem_of_getElem? (i := 8) rfl)) rfl
theorem w729 : Cond.instanceMethod yX6_init ∈ WA := wa_of (wm4 (List.mem_of_getElem? (i := 9) rfl)) rfl
theorem w730 : Cond.code yX6_init cX6_init 5 (Option.none : Option Jvm.ClassFile.FieldType) ∈ WA := wa_of (wm4 (List.mem_of_getElem? (i := 10) rfl)) rfl
theorem w731 : Cond.methodLink RX6 1 ⟨"java/lang/Object", "<init>", "()V"⟩ ∈ WA := wa_of (wm4 (List.mem_of_getElem? (i := 11) rfl)) rfl
theorem w732 : Cond.fieldLink RX6 7 "CellWindows$Read" "source" "I" ∈ WA := wa_of (wm4 (List.mem_of_getElem? (i := 12) rfl)) rfl
theorem w736 : Cond.fieldLink RX6 13 "CellWindows$Read" "factor" "I" ∈ WA := wa_of (wm4 (List.mem_of_getElem? (i := 16) rfl)) rfl
theorem w738 : Cond.fieldLink RX6 16 "CellWindows$Read" "rowsBack" "I" ∈ WA := wa_of (wm4 (List.mem_of_getElem? (i := 18) rfl)) rfl
theorem w742 : Cond.fieldLink RX6 19 "CellWindows$Read" "columnsBack" "I" ∈ WA := wa_of (wm4 (List.mem_of_getElem? (i := 22) rfl)) rfl
theorem w755 : Cond.methodLink RL 149 yL_dropReads ∈ WA := wa_of (wm4 (List.mem_of_getElem? (i := 35) rfl)) rfl
theorem w756 : Cond.static yL_dropReads ∈ WA := wa_of (wm4 (List.mem_of_getElem? (i := 36) rfl)) rfl
theorem w758 : Cond.methodLink RL 23 yX10_dropReads ∈ WA := wa_of (wm4 (List.mem_of_getElem? (i := 38) rfl)) rfl
theorem w759 : Cond.instanceMethod yX10_dropReads ∈ WA := wa_of (wm4 (List.mem_of_getElem? (i := 39) rfl)) rfl
theorem w760 : Cond.selects RX10 yX10_dropReads yX10_dropReads ∈ WA := wa_of (wm4 (List.mem_of_getElem? (i := 40) rfl)) rfl
theorem w761 : Cond.code yX10_dropReads cX10_dropReads 4 (Option.some Jvm.ClassFile.FieldType.int) ∈ WA := wa_of (wm4 (List.mem_of_getElem? (i := 41) rfl)) rfl
theorem w762 : Cond.methodLink RX10 110 yJx4a65c_clear_da8c8 ∈ WA := wa_of (wm4 (List.mem_of_getElem? (i := 42) rfl)) rfl
theorem w763 : Cond.instanceMethod yJx4a65c_clear_da8c8 ∈ WA := wa_of (wm4 (List.mem_of_getElem? (i := 43) rfl)) rfl
theorem w764 : Cond.selects RJx4a65c yJx4a65c_clear_da8c8 yJx4a65c_clear_da8c8 ∈ WA := wa_of (wm4 (List.mem_of_getElem? (i := 44) rfl)) rfl
theorem w765 : Cond.code yJx4a65c_clear_da8c8 cJx4a65c_clear_da8c8 4 (Option.none : Option Jvm.ClassFile.FieldType) ∈ WA := wa_of (wm4 (List.mem_of_getElem? (i := 45) rfl)) rfl
theorem w766 : Cond.methodLink RL 152 yL_setLasting ∈ WA := wa_of (wm4 (List.mem_of_getElem? (i := 46) rfl)) rfl
theorem w767 : Cond.static yL_setLasting ∈ WA := wa_of (wm4 (List.mem_of_getElem? (i := 47) rfl)) rfl
theorem w769 : Cond.methodLink RL 26 yX10_setLasting ∈ WA := wa_of (wm4 (List.mem_of_getElem? (i := 49) rfl)) rfl
theorem w770 : Cond.instanceMethod yX10_setLasting ∈ WA := wa_of (wm4 (List.mem_of_getElem? (i := 50) rfl)) rfl
theorem w771 : Cond.selects RX10 yX10_setLasting yX10_setLasting ∈ WA := wa_of (wm4 (List.mem_of_getElem? (i := 51) rfl)) rfl
theorem w772 : Cond.code yX10_setLasting cX10_setLasting 5 (Option.some Jvm.ClassFile.FieldType.boolean) ∈ WA := wa_of (wm4 (List.mem_of_getElem? (i := 52) rfl)) rfl
theorem w773 : Cond.methodLink RL 156 yL_setField ∈ WA := wa_of (wm4 (List.mem_of_getElem? (i := 53) rfl)) rfl
theorem w774 : Cond.static yL_setField ∈ WA := wa_of (wm4 (List.mem_of_getElem? (i := 54) rfl)) rfl
theorem w776 : Cond.methodLink RL 30 yX10_setField ∈ WA := wa_of (wm4 (List.mem_of_getElem? (i := 56) rfl)) rfl
theorem w777 : Cond.instanceMethod yX10_setField ∈ WA := wa_of (wm4 (List.mem_of_getElem? (i := 57) rfl)) rfl
theorem w778 : Cond.selects RX10 yX10_setField yX10_setField ∈ WA := wa_of (wm4 (List.mem_of_getElem? (i := 58) rfl)) rfl
theorem w779 : Cond.code yX10_setField cX10_setField 3 (Option.some Jvm.ClassFile.FieldType.int) ∈ WA := wa_of (wm4 (List.mem_of_getElem? (i := 59) rfl)) rfl
theorem w780 : Cond.methodLink RX10 117 yX5_spread ∈ WA := wa_of (wm4 (List.mem_of_getElem? (i := 60) rfl)) rfl
theorem w781 : Cond.instanceMethod yX5_spread ∈ WA := wa_of (wm4 (List.mem_of_getElem? (i := 61) rfl)) rfl
theorem w782 : Cond.selects RX5 yX5_spread yX5_spread ∈ WA := wa_of (wm4 (List.mem_of_getElem? (i := 62) rfl)) rfl
theorem w783 : Cond.code yX5_spread cX5_spread 3 (Option.none : Option Jvm.ClassFile.FieldType) ∈ WA := wa_of (wm4 (List.mem_of_getElem? (i := 63) rfl)) rfl
theorem w784 : Cond.methodLink RL 160 yL_setSchedule ∈ WA := wa_of (wm4 (List.mem_of_getElem? (i := 64) rfl)) rfl
theorem w785 : Cond.static yL_setSchedule ∈ WA := wa_of (wm4 (List.mem_of_getElem? (i := 65) rfl)) rfl
theorem w787 : Cond.methodLink RL 34 yX10_setSchedule ∈ WA := wa_of (wm4 (List.mem_of_getElem? (i := 67) rfl)) rfl
theorem w788 : Cond.instanceMethod yX10_setSchedule ∈ WA := wa_of (wm4 (List.mem_of_getElem? (i := 68) rfl)) rfl
theorem w789 : Cond.selects RX10 yX10_setSchedule yX10_setSchedule ∈ WA := wa_of (wm4 (List.mem_of_getElem? (i := 69) rfl)) rfl
theorem w790 : Cond.code yX10_setSchedule cX10_setSchedule 3 (Option.some Jvm.ClassFile.FieldType.boolean) ∈ WA := wa_of (wm4 (List.mem_of_getElem? (i := 70) rfl)) rfl
theorem w791 : Cond.methodLink RX10 124 yX10_requireWeights ∈ WA := wa_of (wm4 (List.mem_of_getElem? (i := 71) rfl)) rfl
theorem w792 : Cond.static yX10_requireWeights ∈ WA := wa_of (wm4 (List.mem_of_getElem? (i := 72) rfl)) rfl
theorem w793 : Cond.code yX10_requireWeights cX10_requireWeights 2 (Option.none : Option Jvm.ClassFile.FieldType) ∈ WA := wa_of (wm4 (List.mem_of_getElem? (i := 73) rfl)) rfl
theorem w794 : Cond.methodLink RX10 127 yX10_isAllowed ∈ WA := wa_of (wm4 (List.mem_of_getElem? (i := 74) rfl)) rfl
theorem w795 : Cond.methodLink RL 163 yL_setOffset ∈ WA := wa_of (wm4 (List.mem_of_getElem? (i := 75) rfl)) rfl
theorem w796 : Cond.static yL_setOffset ∈ WA := wa_of (wm4 (List.mem_of_getElem? (i := 76) rfl)) rfl
theorem w798 : Cond.methodLink RL 38 yX10_setOffset ∈ WA := wa_of (wm4 (List.mem_of_getElem? (i := 78) rfl)) rfl
theorem w799 : Cond.instanceMethod yX10_setOffset ∈ WA := wa_of (wm4 (List.mem_of_getElem? (i := 79) rfl)) rfl
theorem w800 : Cond.selects RX10 yX10_setOffset yX10_setOffset ∈ WA := wa_of (wm4 (List.mem_of_getElem? (i := 80) rfl)) rfl
theorem w801 : Cond.code yX10_setOffset cX10_setOffset 3 (Option.some Jvm.ClassFile.FieldType.boolean) ∈ WA := wa_of (wm4 (List.mem_of_getElem? (i := 81) rfl)) rfl
theorem w802 : Cond.methodLink RL 171 yL_isAllowedWith ∈ WA := wa_of (wm4 (List.mem_of_getElem? (i := 82) rfl)) rfl
theorem w803 : Cond.static yL_isAllowedWith ∈ WA := wa_of (wm4 (List.mem_of_getElem? (i := 83) rfl)) rfl
theorem w805 : Cond.methodLink RL 41 yX10_isAllowedWith ∈ WA := wa_of (wm4 (List.mem_of_getElem? (i := 85) rfl)) rfl
theorem w806 : Cond.instanceMethod yX10_isAllowedWith ∈ WA := wa_of (wm4 (List.mem_of_getElem? (i := 86) rfl)) rfl
theorem w807 : Cond.selects RX10 yX10_isAllowedWith yX10_isAllowedWith ∈ WA := wa_of (wm4 (List.mem_of_getElem? (i := 87) rfl)) rfl
theorem w808 : Cond.code yX10_isAllowedWith cX10_isAllowedWith 3 (Option.some Jvm.ClassFile.FieldType.boolean) ∈ WA := wa_of (wm4 (List.mem_of_getElem? (i := 88) rfl)) rfl
theorem w809 : Cond.methodLink RL 174 yL_isReadInOrder ∈ WA := wa_of (wm4 (List.mem_of_getElem? (i := 89) rfl)) rfl
theorem w810 : Cond.static yL_isReadInOrder ∈ WA := wa_of (wm4 (List.mem_of_getElem? (i := 90) rfl)) rfl
theorem w812 : Cond.methodLink RL 44 yX10_isReadInOrder ∈ WA := wa_of (wm4 (List.mem_of_getElem? (i := 92) rfl)) rfl
theorem w813 : Cond.instanceMethod yX10_isReadInOrder ∈ WA := wa_of (wm4 (List.mem_of_getElem? (i := 93) rfl)) rfl
theorem w814 : Cond.selects RX10 yX10_isReadInOrder yX10_isReadInOrder ∈ WA := wa_of (wm4 (List.mem_of_getElem? (i := 94) rfl)) rfl
theorem w815 : Cond.code yX10_isReadInOrder cX10_isReadInOrder 4 (Option.some Jvm.ClassFile.FieldType.boolean) ∈ WA := wa_of (wm4 (List.mem_of_getElem? (i := 95) rfl)) rfl
theorem w817 : Cond.methodLink RX10 143 yX5_comesLater ∈ WA := wa_of (wm4 (List.mem_of_getElem? (i := 97) rfl)) rfl
theorem w818 : Cond.methodLink RL 181 yL_stepOf ∈ WA := wa_of (wm4 (List.mem_of_getElem? (i := 98) rfl)) rfl
theorem w819 : Cond.static yL_stepOf ∈ WA := wa_of (wm4 (List.mem_of_getElem? (i := 99) rfl)) rfl
theorem w821 : Cond.methodLink RL 47 yX10_stepOf ∈ WA := wa_of (wm4 (List.mem_of_getElem? (i := 101) rfl)) rfl
theorem w822 : Cond.instanceMethod yX10_stepOf ∈ WA := wa_of (wm4 (List.mem_of_getElem? (i := 102) rfl)) rfl
theorem w823 : Cond.selects RX10 yX10_stepOf yX10_stepOf ∈ WA := wa_of (wm4 (List.mem_of_getElem? (i := 103) rfl)) rfl
theorem w824 : Cond.code yX10_stepOf cX10_stepOf 5 (Option.some Jvm.ClassFile.FieldType.int) ∈ WA := wa_of (wm4 (List.mem_of_getElem? (i := 104) rfl)) rfl
theorem w825 : Cond.methodLink RX10 150 yX10_requireCell ∈ WA := wa_of (wm4 (List.mem_of_getElem? (i := 105) rfl)) rfl
theorem w827 : Cond.instanceMethod yX10_requireCell ∈ WA := wa_of (wm4 (List.mem_of_getElem? (i := 107) rfl)) rfl
theorem w828 : Cond.code yX10_requireCell cX10_requireCell 4 (Option.some Jvm.ClassFile.FieldType.int) ∈ WA := wa_of (wm4 (List.mem_of_getElem? (i := 108) rfl)) rfl
theorem w829 : Cond.methodLink RX10 216 yX10_requirePoint ∈ WA := wa_of (wm4 (List.mem_of_getElem? (i := 109) rfl)) rfl
theorem w831 : Cond.instanceMethod yX10_requirePoint ∈ WA := wa_of (wm4 (List.mem_of_getElem? (i := 111) rfl)) rfl
theorem w832 : Cond.code yX10_requirePoint cX10_requirePoint 3 (Option.none : Option Jvm.ClassFile.FieldType) ∈ WA := wa_of (wm4 (List.mem_of_getElem? (i := 112) rfl)) rfl
theorem w833 : Cond.methodLink RX10 282 yX5_hasPoint ∈ WA := wa_of (wm4 (List.mem_of_getElem? (i := 113) rfl)) rfl
theorem w835 : Cond.methodLink RX10 287 yX5_cellOf ∈ WA := wa_of (wm4 (List.mem_of_getElem? (i := 115) rfl)) rfl
theorem w836 : Cond.methodLink RL 185 yL_statementAt ∈ WA := wa_of (wm4 (List.mem_of_getElem? (i := 116) rfl)) rfl
theorem w837 : Cond.static yL_statementAt ∈ WA := wa_of (wm4 (List.mem_of_getElem? (i := 117) rfl)) rfl
theorem w839 : Cond.methodLink RL 51 yX10_statementAt ∈ WA := wa_of (wm4 (List.mem_of_getElem? (i := 119) rfl)) rfl
theorem w840 : Cond.instanceMethod yX10_statementAt ∈ WA := wa_of (wm4 (List.mem_of_getElem? (i := 120) rfl)) rfl
theorem w841 : Cond.selects RX10 yX10_statementAt yX10_statementAt ∈ WA := wa_of (wm4 (List.mem_of_getElem? (i := 121) rfl)) rfl
theorem w842 : Cond.code yX10_statementAt cX10_statementAt 2 (Option.some Jvm.ClassFile.FieldType.int) ∈ WA := wa_of (wm4 (List.mem_of_getElem? (i := 122) rfl)) rfl
theorem w843 : Cond.methodLink RX10 162 yX10_requireStep ∈ WA := wa_of (wm4 (List.mem_of_getElem? (i := 123) rfl)) rfl
theorem w845 : Cond.instanceMethod yX10_requireStep ∈ WA := wa_of (wm4 (List.mem_of_getElem? (i := 125) rfl)) rfl
theorem w846 : Cond.code yX10_requireStep cX10_requireStep 2 (Option.none : Option Jvm.ClassFile.FieldType) ∈ WA := wa_of (wm4 (List.mem_of_getElem? (i := 126) rfl)) rfl
theorem w848 : Cond.methodLink RL 188 yL_pointAt ∈ WA := wa_of (wm4 (List.mem_of_getElem? (i := 128) rfl)) rfl
theorem w849 : Cond.static yL_pointAt ∈ WA := wa_of (wm4 (List.mem_of_getElem? (i := 129) rfl)) rfl
theorem w851 : Cond.methodLink RL 54 yX10_pointAt ∈ WA := wa_of (wm4 (List.mem_of_getElem? (i := 131) rfl)) rfl
theorem w852 : Cond.instanceMethod yX10_pointAt ∈ WA := wa_of (wm4 (List.mem_of_getElem? (i := 132) rfl)) rfl
theorem w853 : Cond.selects RX10 yX10_pointAt yX10_pointAt ∈ WA := wa_of (wm4 (List.mem_of_getElem? (i := 133) rfl)) rfl
theorem w854 : Cond.code yX10_pointAt cX10_pointAt 3 (Option.some Jvm.ClassFile.FieldType.int) ∈ WA := wa_of (wm4 (List.mem_of_getElem? (i := 134) rfl)) rfl
theorem w855 : Cond.methodLink RX10 171 yX5_firstCell ∈ WA := wa_of (wm4 (List.mem_of_getElem? (i := 135) rfl)) rfl
theorem w856 : Cond.methodLink RL 191 yL_endOf ∈ WA := wa_of (wm4 (List.mem_of_getElem? (i := 136) rfl)) rfl
theorem w857 : Cond.static yL_endOf ∈ WA := wa_of (wm4 (List.mem_of_getElem? (i := 137) rfl)) rfl
theorem w859 : Cond.methodLink RL 57 yX10_endOf ∈ WA := wa_of (wm4 (List.mem_of_getElem? (i := 139) rfl)) rfl
theorem w860 : Cond.instanceMethod yX10_endOf ∈ WA := wa_of (wm4 (List.mem_of_getElem? (i := 140) rfl)) rfl
theorem w861 : Cond.selects RX10 yX10_endOf yX10_endOf ∈ WA := wa_of (wm4 (List.mem_of_getElem? (i := 141) rfl)) rfl
theorem w862 : Cond.code yX10_endOf cX10_endOf 5 (Option.some Jvm.ClassFile.FieldType.int) ∈ WA := wa_of (wm4 (List.mem_of_getElem? (i := 142) rfl)) rfl
theorem w863 : Cond.methodLink RL 194 yL_liveAt ∈ WA := wa_of (wm4 (List.mem_of_getElem? (i := 143) rfl)) rfl
theorem w864 : Cond.static yL_liveAt ∈ WA := wa_of (wm4 (List.mem_of_getElem? (i := 144) rfl)) rfl
theorem w866 : Cond.methodLink RL 60 yX10_liveAt ∈ WA := wa_of (wm4 (List.mem_of_getElem? (i := 146) rfl)) rfl
theorem w867 : Cond.instanceMethod yX10_liveAt ∈ WA := wa_of (wm4 (List.mem_of_getElem? (i := 147) rfl)) rfl
theorem w868 : Cond.selects RX10 yX10_liveAt yX10_liveAt ∈ WA := wa_of (wm4 (List.mem_of_getElem? (i := 148) rfl)) rfl
theorem w869 : Cond.code yX10_liveAt cX10_liveAt 2 (Option.some Jvm.ClassFile.FieldType.int) ∈ WA := wa_of (wm4 (List.mem_of_getElem? (i := 149) rfl)) rfl
theorem w870 : Cond.methodLink RX10 178 yX9_countLive ∈ WA := wa_of (wm4 (List.mem_of_getElem? (i := 150) rfl)) rfl
theorem w871 : Cond.instanceMethod yX9_countLive ∈ WA := wa_of (wm4 (List.mem_of_getElem? (i := 151) rfl)) rfl
theorem w872 : Cond.selects RX9 yX9_countLive yX9_countLive ∈ WA := wa_of (wm4 (List.mem_of_getElem? (i := 152) rfl)) rfl
theorem w873 : Cond.code yX9_countLive cX9_countLive 4 (Option.some Jvm.ClassFile.FieldType.int) ∈ WA := wa_of (wm4 (List.mem_of_getElem? (i := 153) rfl)) rfl
theorem w874 : Cond.methodLink RL 201 yL_mostLiveOf ∈ WA := wa_of (wm4 (List.mem_of_getElem? (i := 154) rfl)) rfl
theorem w875 : Cond.static yL_mostLiveOf ∈ WA := wa_of (wm4 (List.mem_of_getElem? (i := 155) rfl)) rfl
theorem w877 : Cond.methodLink RL 63 yX10_mostLiveOf ∈ WA := wa_of (wm4 (List.mem_of_getElem? (i := 157) rfl)) rfl
theorem w878 : Cond.instanceMethod yX10_mostLiveOf ∈ WA := wa_of (wm4 (List.mem_of_getElem? (i := 158) rfl)) rfl
theorem w879 : Cond.selects RX10 yX10_mostLiveOf yX10_mostLiveOf ∈ WA := wa_of (wm4 (List.mem_of_getElem? (i := 159) rfl)) rfl
theorem w880 : Cond.code yX10_mostLiveOf cX10_mostLiveOf 2 (Option.some Jvm.ClassFile.FieldType.int) ∈ WA := wa_of (wm4 (List.mem_of_getElem? (i := 160) rfl)) rfl
theorem w881 : Cond.methodLink RL 204 yL_conflictsOf ∈ WA := wa_of (wm4 (List.mem_of_getElem? (i := 161) rfl)) rfl
theorem w882 : Cond.static yL_conflictsOf ∈ WA := wa_of (wm4 (List.mem_of_getElem? (i := 162) rfl)) rfl
theorem w884 : Cond.methodLink RL 66 yX10_conflictsOf ∈ WA := wa_of (wm4 (List.mem_of_getElem? (i := 164) rfl)) rfl
theorem w885 : Cond.instanceMethod yX10_conflictsOf ∈ WA := wa_of (wm4 (List.mem_of_getElem? (i := 165) rfl)) rfl
theorem w886 : Cond.selects RX10 yX10_conflictsOf yX10_conflictsOf ∈ WA := wa_of (wm4 (List.mem_of_getElem? (i := 166) rfl)) rfl
theorem w887 : Cond.code yX10_conflictsOf cX10_conflictsOf 6 (Option.some Jvm.ClassFile.FieldType.int) ∈ WA := wa_of (wm4 (List.mem_of_getElem? (i := 167) rfl)) rfl
theorem w888 : Cond.methodLink RX10 185 yX9_countConflicts ∈ WA := wa_of (wm4 (List.mem_of_getElem? (i := 168) rfl)) rfl
theorem w889 : Cond.instanceMethod yX9_countConflicts ∈ WA := wa_of (wm4 (List.mem_of_getElem? (i := 169) rfl)) rfl
theorem w890 : Cond.selects RX9 yX9_countConflicts yX9_countConflicts ∈ WA := wa_of (wm4 (List.mem_of_getElem? (i := 170) rfl)) rfl
theorem w891 : Cond.code yX9_countConflicts cX9_countConflicts 6 (Option.some Jvm.ClassFile.FieldType.int) ∈ WA := wa_of (wm4 (List.mem_of_getElem? (i := 171) rfl)) rfl
theorem w892 : Cond.methodLink RX9 132 yX9_inConflict ∈ WA := wa_of (wm4 (List.mem_of_getElem? (i := 172) rfl)) rfl
theorem w893 : Cond.methodLink RL 208 yL_conflictPairs ∈ WA := wa_of (wm4 (List.mem_of_getElem? (i := 173) rfl)) rfl
theorem w894 : Cond.static yL_conflictPairs ∈ WA := wa_of (wm4 (List.mem_of_getElem? (i := 174) rfl)) rfl
theorem w896 : Cond.methodLink RL 70 yX10_conflictPairs ∈ WA := wa_of (wm4 (List.mem_of_getElem? (i := 176) rfl)) rfl
theorem w897 : Cond.instanceMethod yX10_conflictPairs ∈ WA := wa_of (wm4 (List.mem_of_getElem? (i := 177) rfl)) rfl
theorem w898 : Cond.selects RX10 yX10_conflictPairs yX10_conflictPairs ∈ WA := wa_of (wm4 (List.mem_of_getElem? (i := 178) rfl)) rfl
theorem w899 : Cond.code yX10_conflictPairs cX10_conflictPairs 5 (Option.some Jvm.ClassFile.FieldType.int) ∈ WA := wa_of (wm4 (List.mem_of_getElem? (i := 179) rfl)) rfl
theorem w900 : Cond.methodLink RL 211 yL_keepWhole ∈ WA := wa_of (wm4 (List.mem_of_getElem? (i := 180) rfl)) rfl
theorem w901 : Cond.static yL_keepWhole ∈ WA := wa_of (wm4 (List.mem_of_getElem? (i := 181) rfl)) rfl
theorem w903 : Cond.methodLink RL 73 yX10_keepWhole ∈ WA := wa_of (wm4 (List.mem_of_getElem? (i := 183) rfl)) rfl
theorem w904 : Cond.instanceMethod yX10_keepWhole ∈ WA := wa_of (wm4 (List.mem_of_getElem? (i := 184) rfl)) rfl
theorem w905 : Cond.selects RX10 yX10_keepWhole yX10_keepWhole ∈ WA := wa_of (wm4 (List.mem_of_getElem? (i := 185) rfl)) rfl
theorem w906 : Cond.code yX10_keepWhole cX10_keepWhole 2 (Option.some Jvm.ClassFile.FieldType.int) ∈ WA := wa_of (wm4 (List.mem_of_getElem? (i := 186) rfl)) rfl
theorem w907 : Cond.methodLink RL 214 yL_keepRest ∈ WA := wa_of (wm4 (List.mem_of_getElem? (i := 187) rfl)) rfl
theorem w908 : Cond.static yL_keepRest ∈ WA := wa_of (wm4 (List.mem_of_getElem? (i := 188) rfl)) rfl
theorem w910 : Cond.methodLink RL 76 yX10_keepRest ∈ WA := wa_of (wm4 (List.mem_of_getElem? (i := 190) rfl)) rfl
theorem w911 : Cond.instanceMethod yX10_keepRest ∈ WA := wa_of (wm4 (List.mem_of_getElem? (i := 191) rfl)) rfl
theorem w912 : Cond.selects RX10 yX10_keepRest yX10_keepRest ∈ WA := wa_of (wm4 (List.mem_of_getElem? (i := 192) rfl)) rfl
theorem w913 : Cond.code yX10_keepRest cX10_keepRest 3 (Option.some Jvm.ClassFile.FieldType.int) ∈ WA := wa_of (wm4 (List.mem_of_getElem? (i := 193) rfl)) rfl
theorem w914 : Cond.methodLink RX10 197 yX8_becomeRest ∈ WA := wa_of (wm4 (List.mem_of_getElem? (i := 194) rfl)) rfl
theorem w915 : Cond.methodLink RL 217 yL_keepTwoRests ∈ WA := wa_of (wm4 (List.mem_of_getElem? (i := 195) rfl)) rfl
theorem w916 : Cond.static yL_keepTwoRests ∈ WA := wa_of (wm4 (List.mem_of_getElem? (i := 196) rfl)) rfl
theorem w918 : Cond.methodLink RL 79 yX10_keepTwoRests ∈ WA := wa_of (wm4 (List.mem_of_getElem? (i := 198) rfl)) rfl
theorem w919 : Cond.instanceMethod yX10_keepTwoRests ∈ WA := wa_of (wm4 (List.mem_of_getElem? (i := 199) rfl)) rfl
theorem w920 : Cond.selects RX10 yX10_keepTwoRests yX10_keepTwoRests ∈ WA := wa_of (wm4 (List.mem_of_getElem? (i := 200) rfl)) rfl
theorem w921 : Cond.code yX10_keepTwoRests cX10_keepTwoRests 4 (Option.some Jvm.ClassFile.FieldType.int) ∈ WA := wa_of (wm4 (List.mem_of_getElem? (i := 201) rfl)) rfl
theorem w922 : Cond.methodLink RX10 200 yX8_becomeTwoRests ∈ WA := wa_of (wm4 (List.mem_of_getElem? (i := 202) rfl)) rfl
theorem w923 : Cond.methodLink RL 220 yL_keepSlant ∈ WA := wa_of (wm4 (List.mem_of_getElem? (i := 203) rfl)) rfl
theorem w924 : Cond.static yL_keepSlant ∈ WA := wa_of (wm4 (List.mem_of_getElem? (i := 204) rfl)) rfl
theorem w926 : Cond.methodLink RL 82 yX10_keepSlant ∈ WA := wa_of (wm4 (List.mem_of_getElem? (i := 206) rfl)) rfl
theorem w927 : Cond.instanceMethod yX10_keepSlant ∈ WA := wa_of (wm4 (List.mem_of_getElem? (i := 207) rfl)) rfl
theorem w928 : Cond.selects RX10 yX10_keepSlant yX10_keepSlant ∈ WA := wa_of (wm4 (List.mem_of_getElem? (i := 208) rfl)) rfl
theorem w929 : Cond.code yX10_keepSlant cX10_keepSlant 4 (Option.some Jvm.ClassFile.FieldType.int) ∈ WA := wa_of (wm4 (List.mem_of_getElem? (i := 209) rfl)) rfl
theorem w930 : Cond.methodLink RX10 203 yX8_becomeSlant ∈ WA := wa_of (wm4 (List.mem_of_getElem? (i := 210) rfl)) rfl
theorem w931 : Cond.methodLink RL 227 yL_windowSize ∈ WA := wa_of (wm4 (List.mem_of_getElem? (i := 211) rfl)) rfl
theorem w932 : Cond.static yL_windowSize ∈ WA := wa_of (wm4 (List.mem_of_getElem? (i := 212) rfl)) rfl
theorem w934 : Cond.methodLink RL 85 yX10_windowSize ∈ WA := wa_of (wm4 (List.mem_of_getElem? (i := 214) rfl)) rfl
theorem w935 : Cond.instanceMethod yX10_windowSize ∈ WA := wa_of (wm4 (List.mem_of_getElem? (i := 215) rfl)) rfl
theorem w936 : Cond.selects RX10 yX10_windowSize yX10_windowSize ∈ WA := wa_of (wm4 (List.mem_of_getElem? (i := 216) rfl)) rfl
theorem w937 : Cond.code yX10_windowSize cX10_windowSize 2 (Option.some Jvm.ClassFile.FieldType.int) ∈ WA := wa_of (wm4 (List.mem_of_getElem? (i := 217) rfl)) rfl
theorem w938 : Cond.methodLink RL 234 yL_placeOf ∈ WA := wa_of (wm4 (List.mem_of_getElem? (i := 218) rfl)) rfl
theorem w939 : Cond.static yL_placeOf ∈ WA := wa_of (wm4 (List.mem_of_getElem? (i := 219) rfl)) rfl
theorem w941 : Cond.methodLink RL 88 yX10_placeOf ∈ WA := wa_of (wm4 (List.mem_of_getElem? (i := 221) rfl)) rfl
theorem w942 : Cond.instanceMethod yX10_placeOf ∈ WA := wa_of (wm4 (List.mem_of_getElem? (i := 222) rfl)) rfl
theorem w943 : Cond.selects RX10 yX10_placeOf yX10_placeOf ∈ WA := wa_of (wm4 (List.mem_of_getElem? (i := 223) rfl)) rfl
theorem w944 : Cond.code yX10_placeOf cX10_placeOf 4 (Option.some Jvm.ClassFile.FieldType.int) ∈ WA := wa_of (wm4 (List.mem_of_getElem? (i := 224) rfl)) rfl
theorem w945 : Cond.methodLink RX10 222 yX8_placeFor ∈ WA := wa_of (wm4 (List.mem_of_getElem? (i := 225) rfl)) rfl
theorem w946 : Cond.methodLink RL 237 yL_isRight ∈ WA := wa_of (wm4 (List.mem_of_getElem? (i := 226) rfl)) rfl
theorem w947 : Cond.static yL_isRight ∈ WA := wa_of (wm4 (List.mem_of_getElem? (i := 227) rfl)) rfl
theorem w949 : Cond.methodLink RL 91 yX10_isRight ∈ WA := wa_of (wm4 (List.mem_of_getElem? (i := 229) rfl)) rfl
theorem w950 : Cond.instanceMethod yX10_isRight ∈ WA := wa_of (wm4 (List.mem_of_getElem? (i := 230) rfl)) rfl
theorem w951 : Cond.selects RX10 yX10_isRight yX10_isRight ∈ WA := wa_of (wm4 (List.mem_of_getElem? (i := 231) rfl)) rfl
theorem w952 : Cond.code yX10_isRight cX10_isRight 2 (Option.some Jvm.ClassFile.FieldType.boolean) ∈ WA := wa_of (wm4 (List.mem_of_getElem? (i := 232) rfl)) rfl
theorem w953 : Cond.methodLink RX10 225 yX2_areKeptApart ∈ WA := wa_of (wm4 (List.mem_of_getElem? (i := 233) rfl)) rfl
theorem w954 : Cond.methodLink RL 240 yL_leastRest ∈ WA := wa_of (wm4 (List.mem_of_getElem? (i := 234) rfl)) rfl
theorem w955 : Cond.static yL_leastRest ∈ WA := wa_of (wm4 (List.mem_of_getElem? (i := 235) rfl)) rfl
theorem w957 : Cond.methodLink RL 95 yX10_leastRest ∈ WA := wa_of (wm4 (List.mem_of_getElem? (i := 237) rfl)) rfl
theorem w958 : Cond.instanceMethod yX10_leastRest ∈ WA := wa_of (wm4 (List.mem_of_getElem? (i := 238) rfl)) rfl
theorem w959 : Cond.selects RX10 yX10_leastRest yX10_leastRest ∈ WA := wa_of (wm4 (List.mem_of_getElem? (i := 239) rfl)) rfl
theorem w960 : Cond.code yX10_leastRest cX10_leastRest 2 (Option.some Jvm.ClassFile.FieldType.int) ∈ WA := wa_of (wm5 (List.mem_of_getElem? (i := 0) rfl)) rfl
theorem w961 : Cond.methodLink RL 243 yL_leastRestByDifferences ∈ WA := wa_of (wm5 (List.mem_of_getElem? (i := 1) rfl)) rfl
theorem w962 : Cond.static yL_leastRestByDifferences ∈ WA := wa_of (wm5 (List.mem_of_getElem? (i := 2) rfl)) rfl
theorem w964 : Cond.methodLink RL 98 yX10_leastRestByDifferences ∈ WA := wa_of (wm5 (List.mem_of_getElem? (i := 4) rfl)) rfl
theorem w965 : Cond.instanceMethod yX10_leastRestByDifferences ∈ WA := wa_of (wm5 (List.mem_of_getElem? (i := 5) rfl)) rfl
theorem w966 : Cond.selects RX10 yX10_leastRestByDifferences yX10_leastRestByDifferences ∈ WA := wa_of (wm5 (List.mem_of_getElem? (i := 6) rfl)) rfl
theorem w967 : Cond.code yX10_leastRestByDifferences cX10_leastRestByDifferences 2 (Option.some Jvm.ClassFile.FieldType.int) ∈ WA := wa_of (wm5 (List.mem_of_getElem? (i := 7) rfl)) rfl
theorem w968 : Cond.methodLink RX10 233 yX2_leastModulusDividingNone ∈ WA := wa_of (wm5 (List.mem_of_getElem? (i := 8) rfl)) rfl
theorem w969 : Cond.instanceMethod yX2_leastModulusDividingNone ∈ WA := wa_of (wm5 (List.mem_of_getElem? (i := 9) rfl)) rfl
theorem w970 : Cond.selects RX2 yX2_leastModulusDividingNone yX2_leastModulusDividingNone ∈ WA := wa_of (wm5 (List.mem_of_getElem? (i := 10) rfl)) rfl
theorem w971 : Cond.code yX2_leastModulusDividingNone cX2_leastModulusDividingNone 2 (Option.some Jvm.ClassFile.FieldType.int) ∈ WA := wa_of (wm5 (List.mem_of_getElem? (i := 11) rfl)) rfl
theorem w972 : Cond.methodLink RX2 73 yJ9_abs_0f7a4 ∈ WA := wa_of (wm5 (List.mem_of_getElem? (i := 12) rfl)) rfl
theorem w973 : Cond.methodLink RX2 78 yX2_dividesOne ∈ WA := wa_of (wm5 (List.mem_of_getElem? (i := 13) rfl)) rfl
theorem w975 : Cond.instanceMethod yX2_dividesOne ∈ WA := wa_of (wm5 (List.mem_of_getElem? (i := 15) rfl)) rfl
theorem w976 : Cond.code yX2_dividesOne cX2_dividesOne 3 (Option.some Jvm.ClassFile.FieldType.boolean) ∈ WA := wa_of (wm5 (List.mem_of_getElem? (i := 16) rfl)) rfl
theorem w977 : Cond.methodLink RL 246 yL_leastRowRest ∈ WA := wa_of (wm5 (List.mem_of_getElem? (i := 17) rfl)) rfl
theorem w978 : Cond.static yL_leastRowRest ∈ WA := wa_of (wm5 (List.mem_of_getElem? (i := 18) rfl)) rfl
theorem w980 : Cond.methodLink RL 101 yX10_leastRowRest ∈ WA := wa_of (wm5 (List.mem_of_getElem? (i := 20) rfl)) rfl
theorem w981 : Cond.instanceMethod yX10_leastRowRest ∈ WA := wa_of (wm5 (List.mem_of_getElem? (i := 21) rfl)) rfl
theorem w982 : Cond.selects RX10 yX10_leastRowRest yX10_leastRowRest ∈ WA := wa_of (wm5 (List.mem_of_getElem? (i := 22) rfl)) rfl
theorem w983 : Cond.code yX10_leastRowRest cX10_leastRowRest 2 (Option.some Jvm.ClassFile.FieldType.int) ∈ WA := wa_of (wm5 (List.mem_of_getElem? (i := 23) rfl)) rfl
theorem w984 : Cond.methodLink RL 249 yL_leastColumnRest ∈ WA := wa_of (wm5 (List.mem_of_getElem? (i := 24) rfl)) rfl
theorem w985 : Cond.static yL_leastColumnRest ∈ WA := wa_of (wm5 (List.mem_of_getElem? (i := 25) rfl)) rfl
theorem w987 : Cond.methodLink RL 104 yX10_leastColumnRest ∈ WA := wa_of (wm5 (List.mem_of_getElem? (i := 27) rfl)) rfl
theorem w988 : Cond.instanceMethod yX10_leastColumnRest ∈ WA := wa_of (wm5 (List.mem_of_getElem? (i := 28) rfl)) rfl
theorem w989 : Cond.selects RX10 yX10_leastColumnRest yX10_leastColumnRest ∈ WA := wa_of (wm5 (List.mem_of_getElem? (i := 29) rfl)) rfl
theorem w990 : Cond.code yX10_leastColumnRest cX10_leastColumnRest 2 (Option.some Jvm.ClassFile.FieldType.int) ∈ WA := wa_of (wm5 (List.mem_of_getElem? (i := 30) rfl)) rfl
theorem w991 : Cond.methodLink RL 252 yL_leastSlantModulus ∈ WA := wa_of (wm5 (List.mem_of_getElem? (i := 31) rfl)) rfl
theorem w992 : Cond.static yL_leastSlantModulus ∈ WA := wa_of (wm5 (List.mem_of_getElem? (i := 32) rfl)) rfl
theorem w994 : Cond.methodLink RL 107 yX10_leastSlantModulus ∈ WA := wa_of (wm5 (List.mem_of_getElem? (i := 34) rfl)) rfl
theorem w995 : Cond.instanceMethod yX10_leastSlantModulus ∈ WA := wa_of (wm5 (List.mem_of_getElem? (i := 35) rfl)) rfl
theorem w996 : Cond.selects RX10 yX10_leastSlantModulus yX10_leastSlantModulus ∈ WA := wa_of (wm5 (List.mem_of_getElem? (i := 36) rfl)) rfl
theorem w997 : Cond.code yX10_leastSlantModulus cX10_leastSlantModulus 2 (Option.some Jvm.ClassFile.FieldType.int) ∈ WA := wa_of (wm5 (List.mem_of_getElem? (i := 37) rfl)) rfl
theorem w998 : Cond.methodLink RL 255 yL_leastSlant ∈ WA := wa_of (wm5 (List.mem_of_getElem? (i := 38) rfl)) rfl
theorem w999 : Cond.static yL_leastSlant ∈ WA := wa_of (wm5 (List.mem_of_getElem? (i := 39) rfl)) rfl
theorem w1001 : Cond.methodLink RL 110 yX10_leastSlant ∈ WA := wa_of (wm5 (List.mem_of_getElem? (i := 41) rfl)) rfl
theorem w1002 : Cond.instanceMethod yX10_leastSlant ∈ WA := wa_of (wm5 (List.mem_of_getElem? (i := 42) rfl)) rfl
theorem w1003 : Cond.selects RX10 yX10_leastSlant yX10_leastSlant ∈ WA := wa_of (wm5 (List.mem_of_getElem? (i := 43) rfl)) rfl
theorem w1004 : Cond.code yX10_leastSlant cX10_leastSlant 2 (Option.some Jvm.ClassFile.FieldType.int) ∈ WA := wa_of (wm5 (List.mem_of_getElem? (i := 44) rfl)) rfl
theorem w1005 : Cond.methodLink RL 258 yL_leastJointRest ∈ WA := wa_of (wm5 (List.mem_of_getElem? (i := 45) rfl)) rfl
theorem w1006 : Cond.static yL_leastJointRest ∈ WA := wa_of (wm5 (List.mem_of_getElem? (i := 46) rfl)) rfl
theorem w1008 : Cond.methodLink RL 113 yX10_leastJointRest ∈ WA := wa_of (wm5 (List.mem_of_getElem? (i := 48) rfl)) rfl
theorem w1009 : Cond.instanceMethod yX10_leastJointRest ∈ WA := wa_of (wm5 (List.mem_of_getElem? (i := 49) rfl)) rfl
theorem w1010 : Cond.selects RX10 yX10_leastJointRest yX10_leastJointRest ∈ WA := wa_of (wm5 (List.mem_of_getElem? (i := 50) rfl)) rfl
theorem w1011 : Cond.code yX10_leastJointRest cX10_leastJointRest 3 (Option.some Jvm.ClassFile.FieldType.int) ∈ WA := wa_of (wm5 (List.mem_of_getElem? (i := 51) rfl)) rfl
theorem w1012 : Cond.methodLink RL 261 yL_valueOf ∈ WA := wa_of (wm5 (List.mem_of_getElem? (i := 52) rfl)) rfl
theorem w1013 : Cond.static yL_valueOf ∈ WA := wa_of (wm5 (List.mem_of_getElem? (i := 53) rfl)) rfl
theorem w1015 : Cond.methodLink RL 116 yX10_valueOf ∈ WA := wa_of (wm5 (List.mem_of_getElem? (i := 55) rfl)) rfl
theorem w1016 : Cond.instanceMethod yX10_valueOf ∈ WA := wa_of (wm5 (List.mem_of_getElem? (i := 56) rfl)) rfl
theorem w1017 : Cond.selects RX10 yX10_valueOf yX10_valueOf ∈ WA := wa_of (wm5 (List.mem_of_getElem? (i := 57) rfl)) rfl
theorem w1018 : Cond.code yX10_valueOf cX10_valueOf 5 (Option.some Jvm.ClassFile.FieldType.int) ∈ WA := wa_of (wm5 (List.mem_of_getElem? (i := 58) rfl)) rfl
theorem w1019 : Cond.methodLink RX10 257 yX10_valueWritten ∈ WA := wa_of (wm5 (List.mem_of_getElem? (i := 59) rfl)) rfl
theorem w1021 : Cond.instanceMethod yX10_valueWritten ∈ WA := wa_of (wm5 (List.mem_of_getElem? (i := 61) rfl)) rfl
theorem w1022 : Cond.code yX10_valueWritten cX10_valueWritten 5 (Option.some Jvm.ClassFile.FieldType.int) ∈ WA := wa_of (wm5 (List.mem_of_getElem? (i := 62) rfl)) rfl
theorem w1023 : Cond.methodLink RL 264 yL_contractedValueOf ∈ WA := wa_of (wm5 (List.mem_of_getElem? (i := 63) rfl)) rfl
theorem w1024 : Cond.static yL_contractedValueOf ∈ WA := wa_of (wm5 (List.mem_of_getElem? (i := 64) rfl)) rfl
theorem w1026 : Cond.methodLink RL 119 yX10_contractedValueOf ∈ WA := wa_of (wm5 (List.mem_of_getElem? (i := 66) rfl)) rfl
theorem w1027 : Cond.instanceMethod yX10_contractedValueOf ∈ WA := wa_of (wm5 (List.mem_of_getElem? (i := 67) rfl)) rfl
theorem w1028 : Cond.selects RX10 yX10_contractedValueOf yX10_contractedValueOf ∈ WA := wa_of (wm5 (List.mem_of_getElem? (i := 68) rfl)) rfl
theorem w1029 : Cond.code yX10_contractedValueOf cX10_contractedValueOf 5 (Option.some Jvm.ClassFile.FieldType.int) ∈ WA := wa_of (wm5 (List.mem_of_getElem? (i := 69) rfl)) rfl
theorem w1030 : Cond.methodLink RL 271 yL_bestRowWeight ∈ WA := wa_of (wm5 (List.mem_of_getElem? (i := 70) rfl)) rfl
theorem w1031 : Cond.static yL_bestRowWeight ∈ WA := wa_of (wm5 (List.mem_of_getElem? (i := 71) rfl)) rfl
theorem w1033 : Cond.methodLink RL 122 yX10_bestRowWeight ∈ WA := wa_of (wm5 (List.mem_of_getElem? (i := 73) rfl)) rfl
theorem w1034 : Cond.instanceMethod yX10_bestRowWeight ∈ WA := wa_of (wm5 (List.mem_of_getElem? (i := 74) rfl)) rfl
theorem w1035 : Cond.selects RX10 yX10_bestRowWeight yX10_bestRowWeight ∈ WA := wa_of (wm5 (List.mem_of_getElem? (i := 75) rfl)) rfl
theorem w1036 : Cond.code yX10_bestRowWeight cX10_bestRowWeight 1 (Option.some Jvm.ClassFile.FieldType.int) ∈ WA := wa_of (wm5 (List.mem_of_getElem? (i := 76) rfl)) rfl
theorem w1037 : Cond.methodLink RX10 268 yX10_findBest ∈ WA := wa_of (wm5 (List.mem_of_getElem? (i := 77) rfl)) rfl
theorem w1039 : Cond.instanceMethod yX10_findBest ∈ WA := wa_of (wm5 (List.mem_of_getElem? (i := 79) rfl)) rfl
theorem w1040 : Cond.code yX10_findBest cX10_findBest 3 (Option.none : Option Jvm.ClassFile.FieldType) ∈ WA := wa_of (wm5 (List.mem_of_getElem? (i := 80) rfl)) rfl
theorem w1041 : Cond.methodLink RX10 311 yX10_leastRoomWith ∈ WA := wa_of (wm5 (List.mem_of_getElem? (i := 81) rfl)) rfl
theorem w1043 : Cond.instanceMethod yX10_leastRoomWith ∈ WA := wa_of (wm5 (List.mem_of_getElem? (i := 83) rfl)) rfl
theorem w1044 : Cond.code yX10_leastRoomWith cX10_leastRoomWith 5 (Option.some Jvm.ClassFile.FieldType.int) ∈ WA := wa_of (wm5 (List.mem_of_getElem? (i := 84) rfl)) rfl
theorem w1045 : Cond.methodLink RX10 314 yX1_offer ∈ WA := wa_of (wm5 (List.mem_of_getElem? (i := 85) rfl)) rfl
theorem w1046 : Cond.instanceMethod yX1_offer ∈ WA := wa_of (wm5 (List.mem_of_getElem? (i := 86) rfl)) rfl
theorem w1047 : Cond.selects RX1 yX1_offer yX1_offer ∈ WA := wa_of (wm5 (List.mem_of_getElem? (i := 87) rfl)) rfl
theorem w1048 : Cond.code yX1_offer cX1_offer 4 (Option.none : Option Jvm.ClassFile.FieldType) ∈ WA := wa_of (wm5 (List.mem_of_getElem? (i := 88) rfl)) rfl
theorem w1050 : Cond.methodLink RL 275 yL_bestColumnWeight ∈ WA := wa_of (wm5 (List.mem_of_getElem? (i := 90) rfl)) rfl
theorem w1051 : Cond.static yL_bestColumnWeight ∈ WA := wa_of (wm5 (List.mem_of_getElem? (i := 91) rfl)) rfl
theorem w1053 : Cond.methodLink RL 126 yX10_bestColumnWeight ∈ WA := wa_of (wm5 (List.mem_of_getElem? (i := 93) rfl)) rfl
theorem w1054 : Cond.instanceMethod yX10_bestColumnWeight ∈ WA := wa_of (wm5 (List.mem_of_getElem? (i := 94) rfl)) rfl
theorem w1055 : Cond.selects RX10 yX10_bestColumnWeight yX10_bestColumnWeight ∈ WA := wa_of (wm5 (List.mem_of_getElem? (i := 95) rfl)) rfl
theorem w1056 : Cond.code yX10_bestColumnWeight cX10_bestColumnWeight 1 (Option.some Jvm.ClassFile.FieldType.int) ∈ WA := wa_of (wm5 (List.mem_of_getElem? (i := 96) rfl)) rfl
theorem w1057 : Cond.methodLink RL 278 yL_bestRoom ∈ WA := wa_of (wm5 (List.mem_of_getElem? (i := 97) rfl)) rfl
theorem w1058 : Cond.static yL_bestRoom ∈ WA := wa_of (wm5 (List.mem_of_getElem? (i := 98) rfl)) rfl
theorem w1060 : Cond.methodLink RL 129 yX10_bestRoom ∈ WA := wa_of (wm5 (List.mem_of_getElem? (i := 100) rfl)) rfl
theorem w1061 : Cond.instanceMethod yX10_bestRoom ∈ WA := wa_of (wm5 (List.mem_of_getElem? (i := 101) rfl)) rfl
theorem w1062 : Cond.selects RX10 yX10_bestRoom yX10_bestRoom ∈ WA := wa_of (wm5 (List.mem_of_getElem? (i := 102) rfl)) rfl
theorem w1063 : Cond.code yX10_bestRoom cX10_bestRoom 1 (Option.some Jvm.ClassFile.FieldType.int) ∈ WA := wa_of (wm5 (List.mem_of_getElem? (i := 103) rfl)) rfl
theorem w1064 : Cond.classLink RL 133 RX11 ∈ WA := wa_of (wm5 (List.mem_of_getElem? (i := 104) rfl)) rfl
theorem w1065 : Cond.instantiable RX11 30 ∈ WA := wa_of (wm5 (List.mem_of_getElem? (i := 105) rfl)) rfl
theorem w1066 : Cond.methodLink RL 135 yX11_init ∈ WA := wa_of (wm5 (List.mem_of_getElem? (i := 106) rfl)) rfl
theorem w1067 : Cond.instanceMethod yX11_init ∈ WA := wa_of (wm5 (List.mem_of_getElem? (i := 107) rfl)) rfl
theorem w1068 : Cond.code yX11_init cX11_init 1 (Option.none : Option Jvm.ClassFile.FieldType) ∈ WA := wa_of (wm5 (List.mem_of_getElem? (i := 108) rfl)) rfl
theorem w1069 : Cond.methodLink RX11 1 ⟨"java/lang/Object", "<init>", "()V"⟩ ∈ WA := wa_of (wm5 (List.mem_of_getElem? (i := 109) rfl)) rfl
theorem w1070 : Cond.fieldLink RX11 7 "CellWindowsModel" "rows" "I" ∈ WA := wa_of (wm5 (List.mem_of_getElem? (i := 110) rfl)) rfl
theorem w1071 : Cond.fieldLink RX11 13 "CellWindowsModel" "columns" "I" ∈ WA := wa_of (wm5 (List.mem_of_getElem? (i := 111) rfl)) rfl
theorem w1072 : Cond.fieldLink RX11 87 "CellWindowsModel" "statements" "I" ∈ WA := wa_of (wm5 (List.mem_of_getElem? (i := 112) rfl)) rfl
theorem w1073 : Cond.fieldLink RX11 16 "CellWindowsModel" "addend" "[I" ∈ WA := wa_of (wm5 (List.mem_of_getElem? (i := 113) rfl)) rfl
theorem w1074 : Cond.fieldLink RX11 20 "CellWindowsModel" "reads" "[I" ∈ WA := wa_of (wm5 (List.mem_of_getElem? (i := 114) rfl)) rfl
theorem w1075 : Cond.fieldLink RX11 23 "CellWindowsModel" "source" "[I" ∈ WA := wa_of (wm5 (List.mem_of_getElem? (i := 115) rfl)) rfl
theorem w1076 : Cond.fieldLink RX11 26 "CellWindowsModel" "factor" "[I" ∈ WA := wa_of (wm5 (List.mem_of_getElem? (i := 116) rfl)) rfl
theorem w1077 : Cond.fieldLink RX11 29 "CellWindowsModel" "rowsBack" "[I" ∈ WA := wa_of (wm5 (List.mem_of_getElem? (i := 117) rfl)) rfl
theorem w1078 : Cond.fieldLink RX11 32 "CellWindowsModel" "columnsBack" "[I" ∈ WA := wa_of (wm5 (List.mem_of_getElem? (i := 118) rfl)) rfl
theorem w1079 : Cond.fieldLink RX11 35 "CellWindowsModel" "isLasting" "[Z" ∈ WA := wa_of (wm5 (List.mem_of_getElem? (i := 119) rfl)) rfl
theorem w1080 : Cond.fieldLink RX11 39 "CellWindowsModel" "offset" "[I" ∈ WA := wa_of (wm5 (List.mem_of_getElem? (i := 120) rfl)) rfl
theorem w1081 : Cond.fieldLink RX11 42 "CellWindowsModel" "rowWeight" "I" ∈ WA := wa_of (wm5 (List.mem_of_getElem? (i := 121) rfl)) rfl
theorem w1082 : Cond.fieldLink RX11 120 "CellWindowsModel" "columnWeight" "I" ∈ WA := wa_of (wm5 (List.mem_of_getElem? (i := 122) rfl)) rfl
theorem w1083 : Cond.fieldLink RX11 45 "CellWindowsModel" "kind" "[I" ∈ WA := wa_of (wm5 (List.mem_of_getElem? (i := 123) rfl)) rfl
theorem w1084 : Cond.fieldLink RX11 48 "CellWindowsModel" "first" "[I" ∈ WA := wa_of (wm5 (List.mem_of_getElem? (i := 124) rfl)) rfl
theorem w1085 : Cond.fieldLink RX11 51 "CellWindowsModel" "second" "[I" ∈ WA := wa_of (wm5 (List.mem_of_getElem? (i := 125) rfl)) rfl
theorem w1086 : Cond.fieldLink RX11 54 "CellWindowsModel" "many" "[I" ∈ WA := wa_of (wm5 (List.mem_of_getElem? (i := 126) rfl)) rfl
theorem w1087 : Cond.fieldLink RX11 57 "CellWindowsModel" "step" "[I" ∈ WA := wa_of (wm5 (List.mem_of_getElem? (i := 127) rfl)) rfl
theorem w1088 : Cond.fieldLink RX11 60 "CellWindowsModel" "cellAt" "[I" ∈ WA := wa_of (wm5 (List.mem_of_getElem? (i := 128) rfl)) rfl
theorem w1089 : Cond.fieldLink RX11 63 "CellWindowsModel" "end" "[I" ∈ WA := wa_of (wm5 (List.mem_of_getElem? (i := 129) rfl)) rfl
theorem w1090 : Cond.fieldLink RX11 66 "CellWindowsModel" "value" "[I" ∈ WA := wa_of (wm5 (List.mem_of_getElem? (i := 130) rfl)) rfl
theorem w1091 : Cond.fieldLink RX11 69 "CellWindowsModel" "kept" "[I" ∈ WA := wa_of (wm5 (List.mem_of_getElem? (i := 131) rfl)) rfl
theorem w1092 : Cond.fieldLink RX11 72 "CellWindowsModel" "written" "[I" ∈ WA := wa_of (wm5 (List.mem_of_getElem? (i := 132) rfl)) rfl
theorem w1093 : Cond.fieldLink RX11 75 "CellWindowsModel" "change" "[I" ∈ WA := wa_of (wm5 (List.mem_of_getElem? (i := 133) rfl)) rfl
theorem w1094 : Cond.fieldLink RX11 78 "CellWindowsModel" "apart" "[Z" ∈ WA := wa_of (wm5 (List.mem_of_getElem? (i := 134) rfl)) rfl
theorem w1095 : Cond.fieldLink RX11 81 "CellWindowsModel" "away" "[Z" ∈ WA := wa_of (wm5 (List.mem_of_getElem? (i := 135) rfl)) rfl
theorem w1096 : Cond.fieldLink RX11 227 "CellWindowsModel" "best" "I" ∈ WA := wa_of (wm5 (List.mem_of_getElem? (i := 136) rfl)) rfl
theorem w1097 : Cond.fieldLink RX11 230 "CellWindowsModel" "bestRow" "I" ∈ WA := wa_of (wm5 (List.mem_of_getElem? (i := 137) rfl)) rfl
theorem w1098 : Cond.fieldLink RX11 233 "CellWindowsModel" "bestColumn" "I" ∈ WA := wa_of (wm5 (List.mem_of_getElem? (i := 138) rfl)) rfl
theorem w1099 : Cond.fieldLink RX11 84 "CellWindowsModel" "thrown" "I" ∈ WA := wa_of (wm5 (List.mem_of_getElem? (i := 139) rfl)) rfl
theorem w1161 : Cond.methodLink RL 142 yX11_thrown ∈ WA := wa_of (wm5 (List.mem_of_getElem? (i := 201) rfl)) rfl
theorem w1162 : Cond.instanceMethod yX11_thrown ∈ WA := wa_of (wm5 (List.mem_of_getElem? (i := 202) rfl)) rfl
theorem w1163 : Cond.selects RX11 yX11_thrown yX11_thrown ∈ WA := wa_of (wm5 (List.mem_of_getElem? (i := 203) rfl)) rfl
theorem w1164 : Cond.code yX11_thrown cX11_thrown 1 (Option.some Jvm.ClassFile.FieldType.int) ∈ WA := wa_of (wm5 (List.mem_of_getElem? (i := 204) rfl)) rfl
theorem w1165 : Cond.methodLink RL 141 yX11_addStatement ∈ WA := wa_of (wm5 (List.mem_of_getElem? (i := 205) rfl)) rfl
theorem w1166 : Cond.instanceMethod yX11_addStatement ∈ WA := wa_of (wm5 (List.mem_of_getElem? (i := 206) rfl)) rfl
theorem w1167 : Cond.selects RX11 yX11_addStatement yX11_addStatement ∈ WA := wa_of (wm5 (List.mem_of_getElem? (i := 207) rfl)) rfl
theorem w1168 : Cond.code yX11_addStatement cX11_addStatement 2 (Option.some Jvm.ClassFile.FieldType.int) ∈ WA := wa_of (wm5 (List.mem_of_getElem? (i := 208) rfl)) rfl
theorem w1169 : Cond.methodLink RX11 90 yX11_isIn ∈ WA := wa_of (wm5 (List.mem_of_getElem? (i := 209) rfl)) rfl
theorem w1170 : Cond.static yX11_isIn ∈ WA := wa_of (wm5 (List.mem_of_getElem? (i := 210) rfl)) rfl
theorem w1171 : Cond.code yX11_isIn cX11_isIn 3 (Option.some Jvm.ClassFile.FieldType.boolean) ∈ WA := wa_of (wm5 (List.mem_of_getElem? (i := 211) rfl)) rfl
theorem w1172 : Cond.methodLink RX11 102 yX11_fails ∈ WA := wa_of (wm5 (List.mem_of_getElem? (i := 212) rfl)) rfl
theorem w1174 : Cond.instanceMethod yX11_fails ∈ WA := wa_of (wm5 (List.mem_of_getElem? (i := 214) rfl)) rfl
theorem w1175 : Cond.code yX11_fails cX11_fails 2 (Option.some Jvm.ClassFile.FieldType.boolean) ∈ WA := wa_of (wm5 (List.mem_of_getElem? (i := 215) rfl)) rfl
theorem w1176 : Cond.methodLink RL 148 yX11_addRead ∈ WA := wa_of (wm5 (List.mem_of_getElem? (i := 216) rfl)) rfl
theorem w1177 : Cond.instanceMethod yX11_addRead ∈ WA := wa_of (wm5 (List.mem_of_getElem? (i := 217) rfl)) rfl
theorem w1178 : Cond.selects RX11 yX11_addRead yX11_addRead ∈ WA := wa_of (wm5 (List.mem_of_getElem? (i := 218) rfl)) rfl
theorem w1179 : Cond.code yX11_addRead cX11_addRead 8 (Option.some Jvm.ClassFile.FieldType.int) ∈ WA := wa_of (wm5 (List.mem_of_getElem? (i := 219) rfl)) rfl
theorem w1180 : Cond.methodLink RX11 94 yX11_is ∈ WA := wa_of (wm5 (List.mem_of_getElem? (i := 220) rfl)) rfl
theorem w1182 : Cond.instanceMethod yX11_is ∈ WA := wa_of (wm5 (List.mem_of_getElem? (i := 222) rfl)) rfl
theorem w1183 : Cond.code yX11_is cX11_is 2 (Option.some Jvm.ClassFile.FieldType.boolean) ∈ WA := wa_of (wm5 (List.mem_of_getElem? (i := 223) rfl)) rfl
theorem w1184 : Cond.methodLink RL 151 yX11_dropReads ∈ WA := wa_of (wm5 (List.mem_of_getElem? (i := 224) rfl)) rfl
theorem w1185 : Cond.instanceMethod yX11_dropReads ∈ WA := wa_of (wm5 (List.mem_of_getElem? (i := 225) rfl)) rfl
theorem w1186 : Cond.selects RX11 yX11_dropReads yX11_dropReads ∈ WA := wa_of (wm5 (List.mem_of_getElem? (i := 226) rfl)) rfl
theorem w1187 : Cond.code yX11_dropReads cX11_dropReads 3 (Option.some Jvm.ClassFile.FieldType.int) ∈ WA := wa_of (wm5 (List.mem_of_getElem? (i := 227) rfl)) rfl
theorem w1188 : Cond.methodLink RL 155 yX11_setLasting ∈ WA := wa_of (wm5 (List.mem_of_getElem? (i := 228) rfl)) rfl
theorem w1189 : Cond.instanceMethod yX11_setLasting ∈ WA := wa_of (wm5 (List.mem_of_getElem? (i := 229) rfl)) rfl
theorem w1190 : Cond.selects RX11 yX11_setLasting yX11_setLasting ∈ WA := wa_of (wm5 (List.mem_of_getElem? (i := 230) rfl)) rfl
theorem w1191 : Cond.code yX11_setLasting cX11_setLasting 4 (Option.some Jvm.ClassFile.FieldType.boolean) ∈ WA := wa_of (wm5 (List.mem_of_getElem? (i := 231) rfl)) rfl
theorem w1192 : Cond.methodLink RL 159 yX11_setField ∈ WA := wa_of (wm5 (List.mem_of_getElem? (i := 232) rfl)) rfl
theorem w1193 : Cond.instanceMethod yX11_setField ∈ WA := wa_of (wm5 (List.mem_of_getElem? (i := 233) rfl)) rfl
theorem w1194 : Cond.selects RX11 yX11_setField yX11_setField ∈ WA := wa_of (wm5 (List.mem_of_getElem? (i := 234) rfl)) rfl
theorem w1195 : Cond.code yX11_setField cX11_setField 3 (Option.some Jvm.ClassFile.FieldType.int) ∈ WA := wa_of (wm5 (List.mem_of_getElem? (i := 235) rfl)) rfl
theorem w1196 : Cond.methodLink RL 162 yX11_setSchedule ∈ WA := wa_of (wm5 (List.mem_of_getElem? (i := 236) rfl)) rfl
theorem w1197 : Cond.instanceMethod yX11_setSchedule ∈ WA := wa_of (wm5 (List.mem_of_getElem? (i := 237) rfl)) rfl
theorem w1198 : Cond.selects RX11 yX11_setSchedule yX11_setSchedule ∈ WA := wa_of (wm5 (List.mem_of_getElem? (i := 238) rfl)) rfl
theorem w1199 : Cond.code yX11_setSchedule cX11_setSchedule 3 (Option.some Jvm.ClassFile.FieldType.boolean) ∈ WA := wa_of (wm5 (List.mem_of_getElem? (i := 239) rfl)) rfl
theorem w1200 : Cond.methodLink RX11 141 yX11_areWeights ∈ WA := wa_of (wm6 (List.mem_of_getElem? (i := 0) rfl)) rfl
theorem w1201 : Cond.static yX11_areWeights ∈ WA := wa_of (wm6 (List.mem_of_getElem? (i := 1) rfl)) rfl
theorem w1202 : Cond.code yX11_areWeights cX11_areWeights 2 (Option.some Jvm.ClassFile.FieldType.boolean) ∈ WA := wa_of (wm6 (List.mem_of_getElem? (i := 2) rfl)) rfl
theorem w1203 : Cond.methodLink RX11 144 yX11_allows ∈ WA := wa_of (wm6 (List.mem_of_getElem? (i := 3) rfl)) rfl
theorem w1205 : Cond.instanceMethod yX11_allows ∈ WA := wa_of (wm6 (List.mem_of_getElem? (i := 5) rfl)) rfl
theorem w1206 : Cond.code yX11_allows cX11_allows 3 (Option.some Jvm.ClassFile.FieldType.boolean) ∈ WA := wa_of (wm6 (List.mem_of_getElem? (i := 6) rfl)) rfl
theorem w1207 : Cond.methodLink RX11 123 yX11_deals ∈ WA := wa_of (wm6 (List.mem_of_getElem? (i := 7) rfl)) rfl
theorem w1209 : Cond.instanceMethod yX11_deals ∈ WA := wa_of (wm6 (List.mem_of_getElem? (i := 9) rfl)) rfl
theorem w1210 : Cond.code yX11_deals cX11_deals 7 (Option.none : Option Jvm.ClassFile.FieldType) ∈ WA := wa_of (wm6 (List.mem_of_getElem? (i := 10) rfl)) rfl
theorem w1211 : Cond.methodLink RX11 112 yX11_all ∈ WA := wa_of (wm6 (List.mem_of_getElem? (i := 11) rfl)) rfl
theorem w1213 : Cond.instanceMethod yX11_all ∈ WA := wa_of (wm6 (List.mem_of_getElem? (i := 13) rfl)) rfl
theorem w1214 : Cond.code yX11_all cX11_all 1 (Option.some Jvm.ClassFile.FieldType.int) ∈ WA := wa_of (wm6 (List.mem_of_getElem? (i := 14) rfl)) rfl
theorem w1215 : Cond.methodLink RX11 116 yX11_time ∈ WA := wa_of (wm6 (List.mem_of_getElem? (i := 15) rfl)) rfl
theorem w1217 : Cond.instanceMethod yX11_time ∈ WA := wa_of (wm6 (List.mem_of_getElem? (i := 17) rfl)) rfl
theorem w1218 : Cond.code yX11_time cX11_time 4 (Option.some Jvm.ClassFile.FieldType.int) ∈ WA := wa_of (wm6 (List.mem_of_getElem? (i := 18) rfl)) rfl
theorem w1219 : Cond.methodLink RX11 105 yX11_row ∈ WA := wa_of (wm6 (List.mem_of_getElem? (i := 19) rfl)) rfl
theorem w1221 : Cond.instanceMethod yX11_row ∈ WA := wa_of (wm6 (List.mem_of_getElem? (i := 21) rfl)) rfl
theorem w1222 : Cond.code yX11_row cX11_row 2 (Option.some Jvm.ClassFile.FieldType.int) ∈ WA := wa_of (wm6 (List.mem_of_getElem? (i := 22) rfl)) rfl
theorem w1223 : Cond.methodLink RX11 109 yX11_column ∈ WA := wa_of (wm6 (List.mem_of_getElem? (i := 23) rfl)) rfl
theorem w1225 : Cond.instanceMethod yX11_column ∈ WA := wa_of (wm6 (List.mem_of_getElem? (i := 25) rfl)) rfl
theorem w1226 : Cond.code yX11_column cX11_column 2 (Option.some Jvm.ClassFile.FieldType.int) ∈ WA := wa_of (wm6 (List.mem_of_getElem? (i := 26) rfl)) rfl
theorem w1227 : Cond.methodLink RX11 137 yX11_areInOrder ∈ WA := wa_of (wm6 (List.mem_of_getElem? (i := 27) rfl)) rfl
theorem w1229 : Cond.instanceMethod yX11_areInOrder ∈ WA := wa_of (wm6 (List.mem_of_getElem? (i := 29) rfl)) rfl
theorem w1230 : Cond.code yX11_areInOrder cX11_areInOrder 4 (Option.some Jvm.ClassFile.FieldType.boolean) ∈ WA := wa_of (wm6 (List.mem_of_getElem? (i := 30) rfl)) rfl
theorem w1231 : Cond.methodLink RX11 134 yX11_isInOrder ∈ WA := wa_of (wm6 (List.mem_of_getElem? (i := 31) rfl)) rfl
theorem w1233 : Cond.instanceMethod yX11_isInOrder ∈ WA := wa_of (wm6 (List.mem_of_getElem? (i := 33) rfl)) rfl
theorem w1234 : Cond.code yX11_isInOrder cX11_isInOrder 7 (Option.some Jvm.ClassFile.FieldType.boolean) ∈ WA := wa_of (wm6 (List.mem_of_getElem? (i := 34) rfl)) rfl
theorem w1235 : Cond.methodLink RX11 130 yX11_wanted ∈ WA := wa_of (wm6 (List.mem_of_getElem? (i := 35) rfl)) rfl
theorem w1237 : Cond.instanceMethod yX11_wanted ∈ WA := wa_of (wm6 (List.mem_of_getElem? (i := 37) rfl)) rfl
theorem w1238 : Cond.code yX11_wanted cX11_wanted 5 (Option.some Jvm.ClassFile.FieldType.int) ∈ WA := wa_of (wm6 (List.mem_of_getElem? (i := 38) rfl)) rfl
theorem w1239 : Cond.methodLink RX11 98 yX11_isPoint ∈ WA := wa_of (wm6 (List.mem_of_getElem? (i := 39) rfl)) rfl
theorem w1241 : Cond.instanceMethod yX11_isPoint ∈ WA := wa_of (wm6 (List.mem_of_getElem? (i := 41) rfl)) rfl
theorem w1242 : Cond.code yX11_isPoint cX11_isPoint 3 (Option.some Jvm.ClassFile.FieldType.boolean) ∈ WA := wa_of (wm6 (List.mem_of_getElem? (i := 42) rfl)) rfl
theorem w1243 : Cond.methodLink RX11 127 yX11_cell ∈ WA := wa_of (wm6 (List.mem_of_getElem? (i := 43) rfl)) rfl
theorem w1245 : Cond.instanceMethod yX11_cell ∈ WA := wa_of (wm6 (List.mem_of_getElem? (i := 45) rfl)) rfl
theorem w1246 : Cond.code yX11_cell cX11_cell 4 (Option.some Jvm.ClassFile.FieldType.int) ∈ WA := wa_of (wm6 (List.mem_of_getElem? (i := 46) rfl)) rfl
theorem w1247 : Cond.methodLink RL 165 yX11_setOffset ∈ WA := wa_of (wm6 (List.mem_of_getElem? (i := 47) rfl)) rfl
theorem w1248 : Cond.instanceMethod yX11_setOffset ∈ WA := wa_of (wm6 (List.mem_of_getElem? (i := 48) rfl)) rfl
theorem w1249 : Cond.selects RX11 yX11_setOffset yX11_setOffset ∈ WA := wa_of (wm6 (List.mem_of_getElem? (i := 49) rfl)) rfl
theorem w1250 : Cond.code yX11_setOffset cX11_setOffset 3 (Option.some Jvm.ClassFile.FieldType.boolean) ∈ WA := wa_of (wm6 (List.mem_of_getElem? (i := 50) rfl)) rfl
theorem w1251 : Cond.methodLink RL 170 yX11_isAllowed ∈ WA := wa_of (wm6 (List.mem_of_getElem? (i := 51) rfl)) rfl
theorem w1252 : Cond.instanceMethod yX11_isAllowed ∈ WA := wa_of (wm6 (List.mem_of_getElem? (i := 52) rfl)) rfl
theorem w1253 : Cond.selects RX11 yX11_isAllowed yX11_isAllowed ∈ WA := wa_of (wm6 (List.mem_of_getElem? (i := 53) rfl)) rfl
theorem w1254 : Cond.code yX11_isAllowed cX11_isAllowed 1 (Option.some Jvm.ClassFile.FieldType.boolean) ∈ WA := wa_of (wm6 (List.mem_of_getElem? (i := 54) rfl)) rfl
theorem w1255 : Cond.methodLink RL 173 yX11_isAllowedWith ∈ WA := wa_of (wm6 (List.mem_of_getElem? (i := 55) rfl)) rfl
theorem w1256 : Cond.instanceMethod yX11_isAllowedWith ∈ WA := wa_of (wm6 (List.mem_of_getElem? (i := 56) rfl)) rfl
theorem w1257 : Cond.selects RX11 yX11_isAllowedWith yX11_isAllowedWith ∈ WA := wa_of (wm6 (List.mem_of_getElem? (i := 57) rfl)) rfl
theorem w1258 : Cond.code yX11_isAllowedWith cX11_isAllowedWith 3 (Option.some Jvm.ClassFile.FieldType.boolean) ∈ WA := wa_of (wm6 (List.mem_of_getElem? (i := 58) rfl)) rfl
theorem w1259 : Cond.methodLink RL 176 yX11_isReadInOrder ∈ WA := wa_of (wm6 (List.mem_of_getElem? (i := 59) rfl)) rfl
theorem w1260 : Cond.instanceMethod yX11_isReadInOrder ∈ WA := wa_of (wm6 (List.mem_of_getElem? (i := 60) rfl)) rfl
theorem w1261 : Cond.selects RX11 yX11_isReadInOrder yX11_isReadInOrder ∈ WA := wa_of (wm6 (List.mem_of_getElem? (i := 61) rfl)) rfl
theorem w1262 : Cond.code yX11_isReadInOrder cX11_isReadInOrder 3 (Option.some Jvm.ClassFile.FieldType.boolean) ∈ WA := wa_of (wm6 (List.mem_of_getElem? (i := 62) rfl)) rfl
theorem w1263 : Cond.methodLink RX11 147 yX11_orders ∈ WA := wa_of (wm6 (List.mem_of_getElem? (i := 63) rfl)) rfl
theorem w1265 : Cond.instanceMethod yX11_orders ∈ WA := wa_of (wm6 (List.mem_of_getElem? (i := 65) rfl)) rfl
theorem w1266 : Cond.code yX11_orders cX11_orders 1 (Option.none : Option Jvm.ClassFile.FieldType) ∈ WA := wa_of (wm6 (List.mem_of_getElem? (i := 66) rfl)) rfl
theorem w1267 : Cond.methodLink RL 180 yX11_steps ∈ WA := wa_of (wm6 (List.mem_of_getElem? (i := 67) rfl)) rfl
theorem w1268 : Cond.instanceMethod yX11_steps ∈ WA := wa_of (wm6 (List.mem_of_getElem? (i := 68) rfl)) rfl
theorem w1269 : Cond.selects RX11 yX11_steps yX11_steps ∈ WA := wa_of (wm6 (List.mem_of_getElem? (i := 69) rfl)) rfl
theorem w1270 : Cond.code yX11_steps cX11_steps 1 (Option.some Jvm.ClassFile.FieldType.int) ∈ WA := wa_of (wm6 (List.mem_of_getElem? (i := 70) rfl)) rfl
theorem w1271 : Cond.methodLink RL 184 yX11_stepOf ∈ WA := wa_of (wm6 (List.mem_of_getElem? (i := 71) rfl)) rfl
theorem w1272 : Cond.instanceMethod yX11_stepOf ∈ WA := wa_of (wm6 (List.mem_of_getElem? (i := 72) rfl)) rfl
theorem w1273 : Cond.selects RX11 yX11_stepOf yX11_stepOf ∈ WA := wa_of (wm6 (List.mem_of_getElem? (i := 73) rfl)) rfl
theorem w1274 : Cond.code yX11_stepOf cX11_stepOf 4 (Option.some Jvm.ClassFile.FieldType.int) ∈ WA := wa_of (wm6 (List.mem_of_getElem? (i := 74) rfl)) rfl
theorem w1275 : Cond.methodLink RX11 150 yX11_isCell ∈ WA := wa_of (wm6 (List.mem_of_getElem? (i := 75) rfl)) rfl
theorem w1277 : Cond.instanceMethod yX11_isCell ∈ WA := wa_of (wm6 (List.mem_of_getElem? (i := 77) rfl)) rfl
theorem w1278 : Cond.code yX11_isCell cX11_isCell 4 (Option.some Jvm.ClassFile.FieldType.boolean) ∈ WA := wa_of (wm6 (List.mem_of_getElem? (i := 78) rfl)) rfl
theorem w1279 : Cond.methodLink RL 187 yX11_statementAt ∈ WA := wa_of (wm6 (List.mem_of_getElem? (i := 79) rfl)) rfl
theorem w1280 : Cond.instanceMethod yX11_statementAt ∈ WA := wa_of (wm6 (List.mem_of_getElem? (i := 80) rfl)) rfl
theorem w1281 : Cond.selects RX11 yX11_statementAt yX11_statementAt ∈ WA := wa_of (wm6 (List.mem_of_getElem? (i := 81) rfl)) rfl
theorem w1282 : Cond.code yX11_statementAt cX11_statementAt 2 (Option.some Jvm.ClassFile.FieldType.int) ∈ WA := wa_of (wm6 (List.mem_of_getElem? (i := 82) rfl)) rfl
theorem w1283 : Cond.methodLink RX11 153 yX11_isStep ∈ WA := wa_of (wm6 (List.mem_of_getElem? (i := 83) rfl)) rfl
theorem w1285 : Cond.instanceMethod yX11_isStep ∈ WA := wa_of (wm6 (List.mem_of_getElem? (i := 85) rfl)) rfl
theorem w1286 : Cond.code yX11_isStep cX11_isStep 2 (Option.some Jvm.ClassFile.FieldType.boolean) ∈ WA := wa_of (wm6 (List.mem_of_getElem? (i := 86) rfl)) rfl
theorem w1287 : Cond.methodLink RL 190 yX11_pointAt ∈ WA := wa_of (wm6 (List.mem_of_getElem? (i := 87) rfl)) rfl
theorem w1288 : Cond.instanceMethod yX11_pointAt ∈ WA := wa_of (wm6 (List.mem_of_getElem? (i := 88) rfl)) rfl
theorem w1289 : Cond.selects RX11 yX11_pointAt yX11_pointAt ∈ WA := wa_of (wm6 (List.mem_of_getElem? (i := 89) rfl)) rfl
theorem w1290 : Cond.code yX11_pointAt cX11_pointAt 2 (Option.some Jvm.ClassFile.FieldType.int) ∈ WA := wa_of (wm6 (List.mem_of_getElem? (i := 90) rfl)) rfl
theorem w1291 : Cond.methodLink RL 193 yX11_endOf ∈ WA := wa_of (wm6 (List.mem_of_getElem? (i := 91) rfl)) rfl
theorem w1292 : Cond.instanceMethod yX11_endOf ∈ WA := wa_of (wm6 (List.mem_of_getElem? (i := 92) rfl)) rfl
theorem w1293 : Cond.selects RX11 yX11_endOf yX11_endOf ∈ WA := wa_of (wm6 (List.mem_of_getElem? (i := 93) rfl)) rfl
theorem w1294 : Cond.code yX11_endOf cX11_endOf 4 (Option.some Jvm.ClassFile.FieldType.int) ∈ WA := wa_of (wm6 (List.mem_of_getElem? (i := 94) rfl)) rfl
theorem w1295 : Cond.methodLink RX11 159 yX11_finds ∈ WA := wa_of (wm6 (List.mem_of_getElem? (i := 95) rfl)) rfl
theorem w1297 : Cond.instanceMethod yX11_finds ∈ WA := wa_of (wm6 (List.mem_of_getElem? (i := 97) rfl)) rfl
theorem w1298 : Cond.code yX11_finds cX11_finds 1 (Option.none : Option Jvm.ClassFile.FieldType) ∈ WA := wa_of (wm6 (List.mem_of_getElem? (i := 98) rfl)) rfl
theorem w1299 : Cond.methodLink RX11 156 yX11_lives ∈ WA := wa_of (wm6 (List.mem_of_getElem? (i := 99) rfl)) rfl
theorem w1301 : Cond.instanceMethod yX11_lives ∈ WA := wa_of (wm6 (List.mem_of_getElem? (i := 101) rfl)) rfl
theorem w1302 : Cond.code yX11_lives cX11_lives 5 (Option.none : Option Jvm.ClassFile.FieldType) ∈ WA := wa_of (wm6 (List.mem_of_getElem? (i := 102) rfl)) rfl
theorem w1303 : Cond.methodLink RL 196 yX11_liveAt ∈ WA := wa_of (wm6 (List.mem_of_getElem? (i := 103) rfl)) rfl
theorem w1304 : Cond.instanceMethod yX11_liveAt ∈ WA := wa_of (wm6 (List.mem_of_getElem? (i := 104) rfl)) rfl
theorem w1305 : Cond.selects RX11 yX11_liveAt yX11_liveAt ∈ WA := wa_of (wm6 (List.mem_of_getElem? (i := 105) rfl)) rfl
theorem w1306 : Cond.code yX11_liveAt cX11_liveAt 2 (Option.some Jvm.ClassFile.FieldType.int) ∈ WA := wa_of (wm6 (List.mem_of_getElem? (i := 106) rfl)) rfl
theorem w1307 : Cond.methodLink RX11 162 yX11_most ∈ WA := wa_of (wm6 (List.mem_of_getElem? (i := 107) rfl)) rfl
theorem w1309 : Cond.instanceMethod yX11_most ∈ WA := wa_of (wm6 (List.mem_of_getElem? (i := 109) rfl)) rfl
theorem w1310 : Cond.code yX11_most cX11_most 6 (Option.some Jvm.ClassFile.FieldType.int) ∈ WA := wa_of (wm6 (List.mem_of_getElem? (i := 110) rfl)) rfl
theorem w1311 : Cond.methodLink RL 200 yX11_mostLive ∈ WA := wa_of (wm6 (List.mem_of_getElem? (i := 111) rfl)) rfl
theorem w1312 : Cond.instanceMethod yX11_mostLive ∈ WA := wa_of (wm6 (List.mem_of_getElem? (i := 112) rfl)) rfl
theorem w1313 : Cond.selects RX11 yX11_mostLive yX11_mostLive ∈ WA := wa_of (wm6 (List.mem_of_getElem? (i := 113) rfl)) rfl
theorem w1314 : Cond.code yX11_mostLive cX11_mostLive 1 (Option.some Jvm.ClassFile.FieldType.int) ∈ WA := wa_of (wm6 (List.mem_of_getElem? (i := 114) rfl)) rfl
theorem w1315 : Cond.methodLink RL 203 yX11_mostLiveOf ∈ WA := wa_of (wm6 (List.mem_of_getElem? (i := 115) rfl)) rfl
theorem w1316 : Cond.instanceMethod yX11_mostLiveOf ∈ WA := wa_of (wm6 (List.mem_of_getElem? (i := 116) rfl)) rfl
theorem w1317 : Cond.selects RX11 yX11_mostLiveOf yX11_mostLiveOf ∈ WA := wa_of (wm6 (List.mem_of_getElem? (i := 117) rfl)) rfl
theorem w1318 : Cond.code yX11_mostLiveOf cX11_mostLiveOf 2 (Option.some Jvm.ClassFile.FieldType.int) ∈ WA := wa_of (wm6 (List.mem_of_getElem? (i := 118) rfl)) rfl
theorem w1319 : Cond.methodLink RL 207 yX11_conflictsOf ∈ WA := wa_of (wm6 (List.mem_of_getElem? (i := 119) rfl)) rfl
theorem w1320 : Cond.instanceMethod yX11_conflictsOf ∈ WA := wa_of (wm6 (List.mem_of_getElem? (i := 120) rfl)) rfl
theorem w1321 : Cond.selects RX11 yX11_conflictsOf yX11_conflictsOf ∈ WA := wa_of (wm6 (List.mem_of_getElem? (i := 121) rfl)) rfl
theorem w1322 : Cond.code yX11_conflictsOf cX11_conflictsOf 5 (Option.some Jvm.ClassFile.FieldType.int) ∈ WA := wa_of (wm6 (List.mem_of_getElem? (i := 122) rfl)) rfl
theorem w1323 : Cond.methodLink RX11 168 yX11_conflicts ∈ WA := wa_of (wm6 (List.mem_of_getElem? (i := 123) rfl)) rfl
theorem w1325 : Cond.instanceMethod yX11_conflicts ∈ WA := wa_of (wm6 (List.mem_of_getElem? (i := 125) rfl)) rfl
theorem w1326 : Cond.code yX11_conflicts cX11_conflicts 5 (Option.some Jvm.ClassFile.FieldType.int) ∈ WA := wa_of (wm6 (List.mem_of_getElem? (i := 126) rfl)) rfl
theorem w1327 : Cond.methodLink RX11 165 yX11_areInConflict ∈ WA := wa_of (wm6 (List.mem_of_getElem? (i := 127) rfl)) rfl
theorem w1329 : Cond.instanceMethod yX11_areInConflict ∈ WA := wa_of (wm6 (List.mem_of_getElem? (i := 129) rfl)) rfl
theorem w1330 : Cond.code yX11_areInConflict cX11_areInConflict 3 (Option.some Jvm.ClassFile.FieldType.boolean) ∈ WA := wa_of (wm6 (List.mem_of_getElem? (i := 130) rfl)) rfl
theorem w1331 : Cond.methodLink RL 210 yX11_conflictPairs ∈ WA := wa_of (wm6 (List.mem_of_getElem? (i := 131) rfl)) rfl
theorem w1332 : Cond.instanceMethod yX11_conflictPairs ∈ WA := wa_of (wm6 (List.mem_of_getElem? (i := 132) rfl)) rfl
theorem w1333 : Cond.selects RX11 yX11_conflictPairs yX11_conflictPairs ∈ WA := wa_of (wm6 (List.mem_of_getElem? (i := 133) rfl)) rfl
theorem w1334 : Cond.code yX11_conflictPairs cX11_conflictPairs 4 (Option.some Jvm.ClassFile.FieldType.int) ∈ WA := wa_of (wm6 (List.mem_of_getElem? (i := 134) rfl)) rfl
theorem w1335 : Cond.methodLink RL 213 yX11_keepWhole ∈ WA := wa_of (wm6 (List.mem_of_getElem? (i := 135) rfl)) rfl
theorem w1336 : Cond.instanceMethod yX11_keepWhole ∈ WA := wa_of (wm6 (List.mem_of_getElem? (i := 136) rfl)) rfl
theorem w1337 : Cond.selects RX11 yX11_keepWhole yX11_keepWhole ∈ WA := wa_of (wm6 (List.mem_of_getElem? (i := 137) rfl)) rfl
theorem w1338 : Cond.code yX11_keepWhole cX11_keepWhole 2 (Option.some Jvm.ClassFile.FieldType.int) ∈ WA := wa_of (wm6 (List.mem_of_getElem? (i := 138) rfl)) rfl
theorem w1339 : Cond.methodLink RX11 174 yX11_gives ∈ WA := wa_of (wm6 (List.mem_of_getElem? (i := 139) rfl)) rfl
theorem w1341 : Cond.instanceMethod yX11_gives ∈ WA := wa_of (wm6 (List.mem_of_getElem? (i := 141) rfl)) rfl
theorem w1342 : Cond.code yX11_gives cX11_gives 5 (Option.some Jvm.ClassFile.FieldType.int) ∈ WA := wa_of (wm6 (List.mem_of_getElem? (i := 142) rfl)) rfl
theorem w1343 : Cond.methodLink RX11 171 yX11_size ∈ WA := wa_of (wm6 (List.mem_of_getElem? (i := 143) rfl)) rfl
theorem w1345 : Cond.instanceMethod yX11_size ∈ WA := wa_of (wm6 (List.mem_of_getElem? (i := 145) rfl)) rfl
theorem w1346 : Cond.code yX11_size cX11_size 2 (Option.some Jvm.ClassFile.FieldType.int) ∈ WA := wa_of (wm6 (List.mem_of_getElem? (i := 146) rfl)) rfl
theorem w1347 : Cond.methodLink RL 216 yX11_keepRest ∈ WA := wa_of (wm6 (List.mem_of_getElem? (i := 147) rfl)) rfl
theorem w1348 : Cond.instanceMethod yX11_keepRest ∈ WA := wa_of (wm6 (List.mem_of_getElem? (i := 148) rfl)) rfl
theorem w1349 : Cond.selects RX11 yX11_keepRest yX11_keepRest ∈ WA := wa_of (wm6 (List.mem_of_getElem? (i := 149) rfl)) rfl
theorem w1350 : Cond.code yX11_keepRest cX11_keepRest 3 (Option.some Jvm.ClassFile.FieldType.int) ∈ WA := wa_of (wm6 (List.mem_of_getElem? (i := 150) rfl)) rfl
theorem w1351 : Cond.methodLink RX11 178 yX11_isModulus ∈ WA := wa_of (wm6 (List.mem_of_getElem? (i := 151) rfl)) rfl
theorem w1352 : Cond.static yX11_isModulus ∈ WA := wa_of (wm6 (List.mem_of_getElem? (i := 152) rfl)) rfl
theorem w1353 : Cond.code yX11_isModulus cX11_isModulus 1 (Option.some Jvm.ClassFile.FieldType.boolean) ∈ WA := wa_of (wm6 (List.mem_of_getElem? (i := 153) rfl)) rfl
theorem w1354 : Cond.methodLink RL 219 yX11_keepTwoRests ∈ WA := wa_of (wm6 (List.mem_of_getElem? (i := 154) rfl)) rfl
theorem w1355 : Cond.instanceMethod yX11_keepTwoRests ∈ WA := wa_of (wm6 (List.mem_of_getElem? (i := 155) rfl)) rfl
theorem w1356 : Cond.selects RX11 yX11_keepTwoRests yX11_keepTwoRests ∈ WA := wa_of (wm6 (List.mem_of_getElem? (i := 156) rfl)) rfl
theorem w1357 : Cond.code yX11_keepTwoRests cX11_keepTwoRests 4 (Option.some Jvm.ClassFile.FieldType.int) ∈ WA := wa_of (wm6 (List.mem_of_getElem? (i := 157) rfl)) rfl
theorem w1358 : Cond.methodLink RL 222 yX11_keepSlant ∈ WA := wa_of (wm6 (List.mem_of_getElem? (i := 158) rfl)) rfl
theorem w1359 : Cond.instanceMethod yX11_keepSlant ∈ WA := wa_of (wm6 (List.mem_of_getElem? (i := 159) rfl)) rfl
theorem w1360 : Cond.selects RX11 yX11_keepSlant yX11_keepSlant ∈ WA := wa_of (wm6 (List.mem_of_getElem? (i := 160) rfl)) rfl
theorem w1361 : Cond.code yX11_keepSlant cX11_keepSlant 4 (Option.some Jvm.ClassFile.FieldType.int) ∈ WA := wa_of (wm6 (List.mem_of_getElem? (i := 161) rfl)) rfl
theorem w1362 : Cond.methodLink RL 226 yX11_contract ∈ WA := wa_of (wm6 (List.mem_of_getElem? (i := 162) rfl)) rfl
theorem w1363 : Cond.instanceMethod yX11_contract ∈ WA := wa_of (wm6 (List.mem_of_getElem? (i := 163) rfl)) rfl
theorem w1364 : Cond.selects RX11 yX11_contract yX11_contract ∈ WA := wa_of (wm6 (List.mem_of_getElem? (i := 164) rfl)) rfl
theorem w1365 : Cond.code yX11_contract cX11_contract 5 (Option.some Jvm.ClassFile.FieldType.int) ∈ WA := wa_of (wm6 (List.mem_of_getElem? (i := 165) rfl)) rfl
theorem w1366 : Cond.methodLink RX11 181 yX11_differs ∈ WA := wa_of (wm6 (List.mem_of_getElem? (i := 166) rfl)) rfl
theorem w1368 : Cond.instanceMethod yX11_differs ∈ WA := wa_of (wm6 (List.mem_of_getElem? (i := 168) rfl)) rfl
theorem w1369 : Cond.code yX11_differs cX11_differs 4 (Option.none : Option Jvm.ClassFile.FieldType) ∈ WA := wa_of (wm6 (List.mem_of_getElem? (i := 169) rfl)) rfl
theorem w1370 : Cond.methodLink RX11 185 yX11_rest ∈ WA := wa_of (wm6 (List.mem_of_getElem? (i := 170) rfl)) rfl
theorem w1372 : Cond.instanceMethod yX11_rest ∈ WA := wa_of (wm6 (List.mem_of_getElem? (i := 172) rfl)) rfl
theorem w1373 : Cond.code yX11_rest cX11_rest 2 (Option.some Jvm.ClassFile.FieldType.int) ∈ WA := wa_of (wm6 (List.mem_of_getElem? (i := 173) rfl)) rfl
theorem w1374 : Cond.methodLink RX11 200 yX11_isRest ∈ WA := wa_of (wm6 (List.mem_of_getElem? (i := 174) rfl)) rfl
theorem w1376 : Cond.instanceMethod yX11_isRest ∈ WA := wa_of (wm6 (List.mem_of_getElem? (i := 176) rfl)) rfl
theorem w1377 : Cond.code yX11_isRest cX11_isRest 5 (Option.some Jvm.ClassFile.FieldType.boolean) ∈ WA := wa_of (wm6 (List.mem_of_getElem? (i := 177) rfl)) rfl
theorem w1378 : Cond.methodLink RX11 188 yX11_two ∈ WA := wa_of (wm6 (List.mem_of_getElem? (i := 178) rfl)) rfl
theorem w1380 : Cond.instanceMethod yX11_two ∈ WA := wa_of (wm6 (List.mem_of_getElem? (i := 180) rfl)) rfl
theorem w1381 : Cond.code yX11_two cX11_two 5 (Option.some Jvm.ClassFile.FieldType.int) ∈ WA := wa_of (wm6 (List.mem_of_getElem? (i := 181) rfl)) rfl
theorem w1382 : Cond.methodLink RX11 203 yX11_isTwo ∈ WA := wa_of (wm6 (List.mem_of_getElem? (i := 182) rfl)) rfl
theorem w1384 : Cond.instanceMethod yX11_isTwo ∈ WA := wa_of (wm6 (List.mem_of_getElem? (i := 184) rfl)) rfl
theorem w1385 : Cond.code yX11_isTwo cX11_isTwo 5 (Option.some Jvm.ClassFile.FieldType.boolean) ∈ WA := wa_of (wm6 (List.mem_of_getElem? (i := 185) rfl)) rfl
theorem w1386 : Cond.methodLink RX11 191 yX11_slant ∈ WA := wa_of (wm6 (List.mem_of_getElem? (i := 186) rfl)) rfl
theorem w1388 : Cond.instanceMethod yX11_slant ∈ WA := wa_of (wm6 (List.mem_of_getElem? (i := 188) rfl)) rfl
theorem w1389 : Cond.code yX11_slant cX11_slant 2 (Option.some Jvm.ClassFile.FieldType.int) ∈ WA := wa_of (wm6 (List.mem_of_getElem? (i := 189) rfl)) rfl
theorem w1390 : Cond.methodLink RX11 206 yX11_isSlant ∈ WA := wa_of (wm6 (List.mem_of_getElem? (i := 190) rfl)) rfl
theorem w1392 : Cond.instanceMethod yX11_isSlant ∈ WA := wa_of (wm6 (List.mem_of_getElem? (i := 192) rfl)) rfl
theorem w1393 : Cond.code yX11_isSlant cX11_isSlant 6 (Option.some Jvm.ClassFile.FieldType.boolean) ∈ WA := wa_of (wm6 (List.mem_of_getElem? (i := 193) rfl)) rfl
theorem w1394 : Cond.methodLink RX11 194 yX11_rooms ∈ WA := wa_of (wm6 (List.mem_of_getElem? (i := 194) rfl)) rfl
theorem w1396 : Cond.instanceMethod yX11_rooms ∈ WA := wa_of (wm6 (List.mem_of_getElem? (i := 196) rfl)) rfl
theorem w1397 : Cond.code yX11_rooms cX11_rooms 3 (Option.some Jvm.ClassFile.FieldType.int) ∈ WA := wa_of (wm6 (List.mem_of_getElem? (i := 197) rfl)) rfl
theorem w1398 : Cond.methodLink RL 229 yX11_windowSize ∈ WA := wa_of (wm6 (List.mem_of_getElem? (i := 198) rfl)) rfl
theorem w1399 : Cond.instanceMethod yX11_windowSize ∈ WA := wa_of (wm6 (List.mem_of_getElem? (i := 199) rfl)) rfl
theorem w1400 : Cond.selects RX11 yX11_windowSize yX11_windowSize ∈ WA := wa_of (wm6 (List.mem_of_getElem? (i := 200) rfl)) rfl
theorem w1401 : Cond.code yX11_windowSize cX11_windowSize 2 (Option.some Jvm.ClassFile.FieldType.int) ∈ WA := wa_of (wm6 (List.mem_of_getElem? (i := 201) rfl)) rfl
theorem w1402 : Cond.methodLink RL 233 yX11_room ∈ WA := wa_of (wm6 (List.mem_of_getElem? (i := 202) rfl)) rfl
theorem w1403 : Cond.instanceMethod yX11_room ∈ WA := wa_of (wm6 (List.mem_of_getElem? (i := 203) rfl)) rfl
theorem w1404 : Cond.selects RX11 yX11_room yX11_room ∈ WA := wa_of (wm6 (List.mem_of_getElem? (i := 204) rfl)) rfl
theorem w1405 : Cond.code yX11_room cX11_room 1 (Option.some Jvm.ClassFile.FieldType.int) ∈ WA := wa_of (wm6 (List.mem_of_getElem? (i := 205) rfl)) rfl
theorem w1406 : Cond.methodLink RL 236 yX11_placeOf ∈ WA := wa_of (wm6 (List.mem_of_getElem? (i := 206) rfl)) rfl
theorem w1407 : Cond.instanceMethod yX11_placeOf ∈ WA := wa_of (wm6 (List.mem_of_getElem? (i := 207) rfl)) rfl
theorem w1408 : Cond.selects RX11 yX11_placeOf yX11_placeOf ∈ WA := wa_of (wm6 (List.mem_of_getElem? (i := 208) rfl)) rfl
theorem w1409 : Cond.code yX11_placeOf cX11_placeOf 4 (Option.some Jvm.ClassFile.FieldType.int) ∈ WA := wa_of (wm6 (List.mem_of_getElem? (i := 209) rfl)) rfl
theorem w1410 : Cond.methodLink RX11 197 yX11_place ∈ WA := wa_of (wm6 (List.mem_of_getElem? (i := 210) rfl)) rfl
theorem w1412 : Cond.instanceMethod yX11_place ∈ WA := wa_of (wm6 (List.mem_of_getElem? (i := 212) rfl)) rfl
theorem w1413 : Cond.code yX11_place cX11_place 5 (Option.some Jvm.ClassFile.FieldType.int) ∈ WA := wa_of (wm6 (List.mem_of_getElem? (i := 213) rfl)) rfl
theorem w1414 : Cond.methodLink RL 239 yX11_isRight ∈ WA := wa_of (wm6 (List.mem_of_getElem? (i := 214) rfl)) rfl
theorem w1415 : Cond.instanceMethod yX11_isRight ∈ WA := wa_of (wm6 (List.mem_of_getElem? (i := 215) rfl)) rfl
theorem w1416 : Cond.selects RX11 yX11_isRight yX11_isRight ∈ WA := wa_of (wm6 (List.mem_of_getElem? (i := 216) rfl)) rfl
theorem w1417 : Cond.code yX11_isRight cX11_isRight 5 (Option.some Jvm.ClassFile.FieldType.boolean) ∈ WA := wa_of (wm6 (List.mem_of_getElem? (i := 217) rfl)) rfl
theorem w1418 : Cond.methodLink RL 242 yX11_leastRest ∈ WA := wa_of (wm6 (List.mem_of_getElem? (i := 218) rfl)) rfl
theorem w1419 : Cond.instanceMethod yX11_leastRest ∈ WA := wa_of (wm6 (List.mem_of_getElem? (i := 219) rfl)) rfl
theorem w1420 : Cond.selects RX11 yX11_leastRest yX11_leastRest ∈ WA := wa_of (wm6 (List.mem_of_getElem? (i := 220) rfl)) rfl
theorem w1421 : Cond.code yX11_leastRest cX11_leastRest 2 (Option.some Jvm.ClassFile.FieldType.int) ∈ WA := wa_of (wm6 (List.mem_of_getElem? (i := 221) rfl)) rfl
theorem w1422 : Cond.methodLink RX11 209 yX11_seeks ∈ WA := wa_of (wm6 (List.mem_of_getElem? (i := 222) rfl)) rfl
theorem w1424 : Cond.instanceMethod yX11_seeks ∈ WA := wa_of (wm6 (List.mem_of_getElem? (i := 224) rfl)) rfl
theorem w1425 : Cond.code yX11_seeks cX11_seeks 2 (Option.none : Option Jvm.ClassFile.FieldType) ∈ WA := wa_of (wm6 (List.mem_of_getElem? (i := 225) rfl)) rfl
theorem w1426 : Cond.methodLink RL 245 yX11_leastRestByDifferences ∈ WA := wa_of (wm6 (List.mem_of_getElem? (i := 226) rfl)) rfl
theorem w1427 : Cond.instanceMethod yX11_leastRestByDifferences ∈ WA := wa_of (wm6 (List.mem_of_getElem? (i := 227) rfl)) rfl
theorem w1428 : Cond.selects RX11 yX11_leastRestByDifferences yX11_leastRestByDifferences ∈ WA := wa_of (wm6 (List.mem_of_getElem? (i := 228) rfl)) rfl
theorem w1429 : Cond.code yX11_leastRestByDifferences cX11_leastRestByDifferences 2 (Option.some Jvm.ClassFile.FieldType.int) ∈ WA := wa_of (wm6 (List.mem_of_getElem? (i := 229) rfl)) rfl
theorem w1430 : Cond.methodLink RX11 212 yX11_leastRest ∈ WA := wa_of (wm6 (List.mem_of_getElem? (i := 230) rfl)) rfl
theorem w1431 : Cond.methodLink RL 248 yX11_leastRowRest ∈ WA := wa_of (wm6 (List.mem_of_getElem? (i := 231) rfl)) rfl
theorem w1432 : Cond.instanceMethod yX11_leastRowRest ∈ WA := wa_of (wm6 (List.mem_of_getElem? (i := 232) rfl)) rfl
theorem w1433 : Cond.selects RX11 yX11_leastRowRest yX11_leastRowRest ∈ WA := wa_of (wm6 (List.mem_of_getElem? (i := 233) rfl)) rfl
theorem w1434 : Cond.code yX11_leastRowRest cX11_leastRowRest 2 (Option.some Jvm.ClassFile.FieldType.int) ∈ WA := wa_of (wm6 (List.mem_of_getElem? (i := 234) rfl)) rfl
theorem w1435 : Cond.methodLink RL 251 yX11_leastColumnRest ∈ WA := wa_of (wm6 (List.mem_of_getElem? (i := 235) rfl)) rfl
theorem w1436 : Cond.instanceMethod yX11_leastColumnRest ∈ WA := wa_of (wm6 (List.mem_of_getElem? (i := 236) rfl)) rfl
theorem w1437 : Cond.selects RX11 yX11_leastColumnRest yX11_leastColumnRest ∈ WA := wa_of (wm6 (List.mem_of_getElem? (i := 237) rfl)) rfl
theorem w1438 : Cond.code yX11_leastColumnRest cX11_leastColumnRest 2 (Option.some Jvm.ClassFile.FieldType.int) ∈ WA := wa_of (wm6 (List.mem_of_getElem? (i := 238) rfl)) rfl
theorem w1439 : Cond.methodLink RL 254 yX11_leastSlantModulus ∈ WA := wa_of (wm6 (List.mem_of_getElem? (i := 239) rfl)) rfl
theorem w1440 : Cond.instanceMethod yX11_leastSlantModulus ∈ WA := wa_of (wm7 (List.mem_of_getElem? (i := 0) rfl)) rfl
theorem w1441 : Cond.selects RX11 yX11_leastSlantModulus yX11_leastSlantModulus ∈ WA := wa_of (wm7 (List.mem_of_getElem? (i := 1) rfl)) rfl
theorem w1442 : Cond.code yX11_leastSlantModulus cX11_leastSlantModulus 2 (Option.some Jvm.ClassFile.FieldType.int) ∈ WA := wa_of (wm7 (List.mem_of_getElem? (i := 2) rfl)) rfl
theorem w1443 : Cond.methodLink RL 257 yX11_leastSlant ∈ WA := wa_of (wm7 (List.mem_of_getElem? (i := 3) rfl)) rfl
theorem w1444 : Cond.instanceMethod yX11_leastSlant ∈ WA := wa_of (wm7 (List.mem_of_getElem? (i := 4) rfl)) rfl
theorem w1445 : Cond.selects RX11 yX11_leastSlant yX11_leastSlant ∈ WA := wa_of (wm7 (List.mem_of_getElem? (i := 5) rfl)) rfl
theorem w1446 : Cond.code yX11_leastSlant cX11_leastSlant 2 (Option.some Jvm.ClassFile.FieldType.int) ∈ WA := wa_of (wm7 (List.mem_of_getElem? (i := 6) rfl)) rfl
theorem w1447 : Cond.methodLink RL 260 yX11_leastJointRest ∈ WA := wa_of (wm7 (List.mem_of_getElem? (i := 7) rfl)) rfl
theorem w1448 : Cond.instanceMethod yX11_leastJointRest ∈ WA := wa_of (wm7 (List.mem_of_getElem? (i := 8) rfl)) rfl
theorem w1449 : Cond.selects RX11 yX11_leastJointRest yX11_leastJointRest ∈ WA := wa_of (wm7 (List.mem_of_getElem? (i := 9) rfl)) rfl
theorem w1450 : Cond.code yX11_leastJointRest cX11_leastJointRest 4 (Option.some Jvm.ClassFile.FieldType.int) ∈ WA := wa_of (wm7 (List.mem_of_getElem? (i := 10) rfl)) rfl
theorem w1451 : Cond.methodLink RX11 215 yX11_distances ∈ WA := wa_of (wm7 (List.mem_of_getElem? (i := 11) rfl)) rfl
theorem w1453 : Cond.instanceMethod yX11_distances ∈ WA := wa_of (wm7 (List.mem_of_getElem? (i := 13) rfl)) rfl
theorem w1454 : Cond.code yX11_distances cX11_distances 6 (Option.none : Option Jvm.ClassFile.FieldType) ∈ WA := wa_of (wm7 (List.mem_of_getElem? (i := 14) rfl)) rfl
theorem w1455 : Cond.methodLink RX11 218 yX11_divides ∈ WA := wa_of (wm7 (List.mem_of_getElem? (i := 15) rfl)) rfl
theorem w1457 : Cond.instanceMethod yX11_divides ∈ WA := wa_of (wm7 (List.mem_of_getElem? (i := 17) rfl)) rfl
theorem w1458 : Cond.code yX11_divides cX11_divides 4 (Option.some Jvm.ClassFile.FieldType.boolean) ∈ WA := wa_of (wm7 (List.mem_of_getElem? (i := 18) rfl)) rfl
theorem w1459 : Cond.methodLink RL 263 yX11_valueOf ∈ WA := wa_of (wm7 (List.mem_of_getElem? (i := 19) rfl)) rfl
theorem w1460 : Cond.instanceMethod yX11_valueOf ∈ WA := wa_of (wm7 (List.mem_of_getElem? (i := 20) rfl)) rfl
theorem w1461 : Cond.selects RX11 yX11_valueOf yX11_valueOf ∈ WA := wa_of (wm7 (List.mem_of_getElem? (i := 21) rfl)) rfl
theorem w1462 : Cond.code yX11_valueOf cX11_valueOf 4 (Option.some Jvm.ClassFile.FieldType.int) ∈ WA := wa_of (wm7 (List.mem_of_getElem? (i := 22) rfl)) rfl
theorem w1463 : Cond.methodLink RX11 224 yX11_works ∈ WA := wa_of (wm7 (List.mem_of_getElem? (i := 23) rfl)) rfl
theorem w1465 : Cond.instanceMethod yX11_works ∈ WA := wa_of (wm7 (List.mem_of_getElem? (i := 25) rfl)) rfl
theorem w1466 : Cond.code yX11_works cX11_works 10 (Option.some Jvm.ClassFile.FieldType.int) ∈ WA := wa_of (wm7 (List.mem_of_getElem? (i := 26) rfl)) rfl
theorem w1467 : Cond.methodLink RX11 221 yX11_border ∈ WA := wa_of (wm7 (List.mem_of_getElem? (i := 27) rfl)) rfl
theorem w1468 : Cond.static yX11_border ∈ WA := wa_of (wm7 (List.mem_of_getElem? (i := 28) rfl)) rfl
theorem w1469 : Cond.code yX11_border cX11_border 4 (Option.some Jvm.ClassFile.FieldType.int) ∈ WA := wa_of (wm7 (List.mem_of_getElem? (i := 29) rfl)) rfl
theorem w1470 : Cond.methodLink RL 266 yX11_contractedValueOf ∈ WA := wa_of (wm7 (List.mem_of_getElem? (i := 30) rfl)) rfl
theorem w1471 : Cond.instanceMethod yX11_contractedValueOf ∈ WA := wa_of (wm7 (List.mem_of_getElem? (i := 31) rfl)) rfl
theorem w1472 : Cond.selects RX11 yX11_contractedValueOf yX11_contractedValueOf ∈ WA := wa_of (wm7 (List.mem_of_getElem? (i := 32) rfl)) rfl
theorem w1473 : Cond.code yX11_contractedValueOf cX11_contractedValueOf 4 (Option.some Jvm.ClassFile.FieldType.int) ∈ WA := wa_of (wm7 (List.mem_of_getElem? (i := 33) rfl)) rfl
theorem w1474 : Cond.methodLink RL 270 yX11_firstWrongStep ∈ WA := wa_of (wm7 (List.mem_of_getElem? (i := 34) rfl)) rfl
theorem w1475 : Cond.instanceMethod yX11_firstWrongStep ∈ WA := wa_of (wm7 (List.mem_of_getElem? (i := 35) rfl)) rfl
theorem w1476 : Cond.selects RX11 yX11_firstWrongStep yX11_firstWrongStep ∈ WA := wa_of (wm7 (List.mem_of_getElem? (i := 36) rfl)) rfl
theorem w1477 : Cond.code yX11_firstWrongStep cX11_firstWrongStep 1 (Option.some Jvm.ClassFile.FieldType.int) ∈ WA := wa_of (wm7 (List.mem_of_getElem? (i := 37) rfl)) rfl
theorem w1478 : Cond.methodLink RL 274 yX11_bestRowWeight ∈ WA := wa_of (wm7 (List.mem_of_getElem? (i := 38) rfl)) rfl
theorem w1479 : Cond.instanceMethod yX11_bestRowWeight ∈ WA := wa_of (wm7 (List.mem_of_getElem? (i := 39) rfl)) rfl
theorem w1480 : Cond.selects RX11 yX11_bestRowWeight yX11_bestRowWeight ∈ WA := wa_of (wm7 (List.mem_of_getElem? (i := 40) rfl)) rfl
theorem w1481 : Cond.code yX11_bestRowWeight cX11_bestRowWeight 1 (Option.some Jvm.ClassFile.FieldType.int) ∈ WA := wa_of (wm7 (List.mem_of_getElem? (i := 41) rfl)) rfl
theorem w1482 : Cond.methodLink RX11 236 yX11_hasBest ∈ WA := wa_of (wm7 (List.mem_of_getElem? (i := 42) rfl)) rfl
theorem w1484 : Cond.instanceMethod yX11_hasBest ∈ WA := wa_of (wm7 (List.mem_of_getElem? (i := 44) rfl)) rfl
theorem w1485 : Cond.code yX11_hasBest cX11_hasBest 4 (Option.some Jvm.ClassFile.FieldType.boolean) ∈ WA := wa_of (wm7 (List.mem_of_getElem? (i := 45) rfl)) rfl
theorem w1486 : Cond.methodLink RL 277 yX11_bestColumnWeight ∈ WA := wa_of (wm7 (List.mem_of_getElem? (i := 46) rfl)) rfl
theorem w1487 : Cond.instanceMethod yX11_bestColumnWeight ∈ WA := wa_of (wm7 (List.mem_of_getElem? (i := 47) rfl)) rfl
theorem w1488 : Cond.selects RX11 yX11_bestColumnWeight yX11_bestColumnWeight ∈ WA := wa_of (wm7 (List.mem_of_getElem? (i := 48) rfl)) rfl
theorem w1489 : Cond.code yX11_bestColumnWeight cX11_bestColumnWeight 1 (Option.some Jvm.ClassFile.FieldType.int) ∈ WA := wa_of (wm7 (List.mem_of_getElem? (i := 49) rfl)) rfl
theorem w1490 : Cond.methodLink RL 280 yX11_bestRoom ∈ WA := wa_of (wm7 (List.mem_of_getElem? (i := 50) rfl)) rfl
theorem w1491 : Cond.instanceMethod yX11_bestRoom ∈ WA := wa_of (wm7 (List.mem_of_getElem? (i := 51) rfl)) rfl
theorem w1492 : Cond.selects RX11 yX11_bestRoom yX11_bestRoom ∈ WA := wa_of (wm7 (List.mem_of_getElem? (i := 52) rfl)) rfl
theorem w1493 : Cond.code yX11_bestRoom cX11_bestRoom 1 (Option.some Jvm.ClassFile.FieldType.int) ∈ WA := wa_of (wm7 (List.mem_of_getElem? (i := 53) rfl)) rfl
theorem w1494 : Cond.arrayClass ClassFile.FieldType.long ∈ WA := wa_of (wm7 (List.mem_of_getElem? (i := 54) rfl)) rfl
theorem w1514 : Cond.selects "[Ljava/lang/Object;" ⟨"java/lang/Object", "getClass", "()Ljava/lang/Class;"⟩ ⟨"java/lang/Object", "getClass", "()Ljava/lang/Class;"⟩ ∈ WA := wa_of (wm7 (List.mem_of_getElem? (i := 74) rfl)) rfl
theorem w1522 : Cond.fieldLink RJx29ce0 7 "java/lang/Enum" "ordinal" "I" ∈ WA := wa_of (wm7 (List.mem_of_getElem? (i := 82) rfl)) rfl
theorem wp1 {q : MethodName × Nat} (h : q ∈ lw_privs_1) : q ∈ lw_privs := List.mem_append_left _ h
theorem wps0_0 : Cond.selects RX10 yX10_arranged yX10_arranged ∈ WA := wa_sel (q := (yX10_arranged, 9)) (wp1 (List.mem_of_getElem? (i := 0) rfl)) rfl
theorem wps0_1 : Cond.selects RX9 yX9_setTimes yX9_setTimes ∈ WA := wa_sel (q := (yX9_setTimes, 10)) (wp1 (List.mem_of_getElem? (i := 1) rfl)) rfl
theorem wps0_2 : Cond.selects RX9 yX9_setSteps yX9_setSteps ∈ WA := wa_sel (q := (yX9_setSteps, 10)) (wp1 (List.mem_of_getElem? (i := 2) rfl)) rfl
theorem wps0_3 : Cond.selects RX9 yX9_setEnds yX9_setEnds ∈ WA := wa_sel (q := (yX9_setEnds, 10)) (wp1 (List.mem_of_getElem? (i := 3) rfl)) rfl
theorem wps0_4 : Cond.selects RX9 yX9_stretchCellRead yX9_stretchCellRead ∈ WA := wa_sel (q := (yX9_stretchCellRead, 10)) (wp1 (List.mem_of_getElem? (i := 4) rfl)) rfl
theorem wps0_5 : Cond.selects RX10 yX10_gatherDifferences yX10_gatherDifferences ∈ WA := wa_sel (q := (yX10_gatherDifferences, 9)) (wp1 (List.mem_of_getElem? (i := 5) rfl)) rfl
theorem wps0_6 : Cond.selects RX9 yX9_isBornWithin yX9_isBornWithin ∈ WA := wa_sel (q := (yX9_isBornWithin, 10)) (wp1 (List.mem_of_getElem? (i := 6) rfl)) rfl
theorem wps0_7 : Cond.selects RX2 yX2_addOne yX2_addOne ∈ WA := wa_sel (q := (yX2_addOne, 7)) (wp1 (List.mem_of_getElem? (i := 7) rfl)) rfl
theorem wps0_8 : Cond.selects RX10 yX10_keepSmallest yX10_keepSmallest ∈ WA := wa_sel (q := (yX10_keepSmallest, 9)) (wp1 (List.mem_of_getElem? (i := 8) rfl)) rfl
theorem wps0_9 : Cond.selects RX10 yX10_keepIfSmaller yX10_keepIfSmaller ∈ WA := wa_sel (q := (yX10_keepIfSmaller, 9)) (wp1 (List.mem_of_getElem? (i := 9) rfl)) rfl
theorem wps0_10 : Cond.selects RX10 yX10_placesOf yX10_placesOf ∈ WA := wa_sel (q := (yX10_placesOf, 9)) (wp1 (List.mem_of_getElem? (i := 10) rfl)) rfl
theorem wps0_11 : Cond.selects RX4 yX4_taken yX4_taken ∈ WA := wa_sel (q := (yX4_taken, 2)) (wp1 (List.mem_of_getElem? (i := 11) rfl)) rfl
theorem wps0_12 : Cond.selects RX4 yX4_placeIn yX4_placeIn ∈ WA := wa_sel (q := (yX4_placeIn, 2)) (wp1 (List.mem_of_getElem? (i := 12) rfl)) rfl
theorem wps0_13 : Cond.selects "java/lang/Throwable" ⟨"java/lang/Throwable", "fillInStackTrace", "(I)Ljava/lang/Throwable;"⟩ ⟨"java/lang/Throwable", "fillInStackTrace", "(I)Ljava/lang/Throwable;"⟩ ∈ WA := wa_sel (q := (⟨"java/lang/Throwable", "fillInStackTrace", "(I)Ljava/lang/Throwable;"⟩, 6)) (wp1 (List.mem_of_getElem? (i := 13) rfl)) rfl
theorem wps0_14 : Cond.selects RJx4a65c yJx4a65c_add_72be8 yJx4a65c_add_72be8 ∈ WA := wa_sel (q := (yJx4a65c_add_72be8, 3)) (wp1 (List.mem_of_getElem? (i := 14) rfl)) rfl
theorem wps0_15 : Cond.selects RJx4a65c yJx4a65c_grow_d5877 yJx4a65c_grow_d5877 ∈ WA := wa_sel (q := (yJx4a65c_grow_d5877, 3)) (wp1 (List.mem_of_getElem? (i := 15) rfl)) rfl
theorem wp2 {q : MethodName × Nat} (h : q ∈ lw_privs_2) : q ∈ lw_privs := List.mem_append_right _ (List.mem_append_left _ h)
theorem wps1_0 : Cond.selects RJx4a65c yJx4a65c_grow_92f84 yJx4a65c_grow_92f84 ∈ WA := wa_sel (q := (yJx4a65c_grow_92f84, 3)) (wp2 (List.mem_of_getElem? (i := 0) rfl)) rfl
theorem wps1_1 : Cond.selects RX10 yX10_requireStatement yX10_requireStatement ∈ WA := wa_sel (q := (yX10_requireStatement, 9)) (wp2 (List.mem_of_getElem? (i := 1) rfl)) rfl
theorem wps1_2 : Cond.selects RX10 yX10_requireCell yX10_requireCell ∈ WA := wa_sel (q := (yX10_requireCell, 9)) (wp2 (List.mem_of_getElem? (i := 2) rfl)) rfl
theorem wps1_3 : Cond.selects RX10 yX10_requirePoint yX10_requirePoint ∈ WA := wa_sel (q := (yX10_requirePoint, 9)) (wp2 (List.mem_of_getElem? (i := 3) rfl)) rfl
theorem wps1_4 : Cond.selects RX10 yX10_requireStep yX10_requireStep ∈ WA := wa_sel (q := (yX10_requireStep, 9)) (wp2 (List.mem_of_getElem? (i := 4) rfl)) rfl
theorem wps1_5 : Cond.selects RX2 yX2_dividesOne yX2_dividesOne ∈ WA := wa_sel (q := (yX2_dividesOne, 7)) (wp2 (List.mem_of_getElem? (i := 5) rfl)) rfl
theorem wps1_6 : Cond.selects RX10 yX10_valueWritten yX10_valueWritten ∈ WA := wa_sel (q := (yX10_valueWritten, 9)) (wp2 (List.mem_of_getElem? (i := 6) rfl)) rfl
theorem wps1_7 : Cond.selects RX10 yX10_findBest yX10_findBest ∈ WA := wa_sel (q := (yX10_findBest, 9)) (wp2 (List.mem_of_getElem? (i := 7) rfl)) rfl
theorem wps1_8 : Cond.selects RX10 yX10_leastRoomWith yX10_leastRoomWith ∈ WA := wa_sel (q := (yX10_leastRoomWith, 9)) (wp2 (List.mem_of_getElem? (i := 8) rfl)) rfl
theorem wps1_9 : Cond.selects RX11 yX11_fails yX11_fails ∈ WA := wa_sel (q := (yX11_fails, 30)) (wp2 (List.mem_of_getElem? (i := 9) rfl)) rfl
theorem wps1_10 : Cond.selects RX11 yX11_is yX11_is ∈ WA := wa_sel (q := (yX11_is, 30)) (wp2 (List.mem_of_getElem? (i := 10) rfl)) rfl
theorem wps1_11 : Cond.selects RX11 yX11_allows yX11_allows ∈ WA := wa_sel (q := (yX11_allows, 30)) (wp2 (List.mem_of_getElem? (i := 11) rfl)) rfl
theorem wps1_12 : Cond.selects RX11 yX11_deals yX11_deals ∈ WA := wa_sel (q := (yX11_deals, 30)) (wp2 (List.mem_of_getElem? (i := 12) rfl)) rfl
theorem wps1_13 : Cond.selects RX11 yX11_all yX11_all ∈ WA := wa_sel (q := (yX11_all, 30)) (wp2 (List.mem_of_getElem? (i := 13) rfl)) rfl
theorem wps1_14 : Cond.selects RX11 yX11_time yX11_time ∈ WA := wa_sel (q := (yX11_time, 30)) (wp2 (List.mem_of_getElem? (i := 14) rfl)) rfl
theorem wps1_15 : Cond.selects RX11 yX11_row yX11_row ∈ WA := wa_sel (q := (yX11_row, 30)) (wp2 (List.mem_of_getElem? (i := 15) rfl)) rfl
theorem wp3 {q : MethodName × Nat} (h : q ∈ lw_privs_3) : q ∈ lw_privs := List.mem_append_right _ (List.mem_append_right _ (List.mem_append_left _ h))
theorem wps2_0 : Cond.selects RX11 yX11_column yX11_column ∈ WA := wa_sel (q := (yX11_column, 30)) (wp3 (List.mem_of_getElem? (i := 0) rfl)) rfl
theorem wps2_1 : Cond.selects RX11 yX11_areInOrder yX11_areInOrder ∈ WA := wa_sel (q := (yX11_areInOrder, 30)) (wp3 (List.mem_of_getElem? (i := 1) rfl)) rfl
theorem wps2_2 : Cond.selects RX11 yX11_isInOrder yX11_isInOrder ∈ WA := wa_sel (q := (yX11_isInOrder, 30)) (wp3 (List.mem_of_getElem? (i := 2) rfl)) rfl
theorem wps2_3 : Cond.selects RX11 yX11_wanted yX11_wanted ∈ WA := wa_sel (q := (yX11_wanted, 30)) (wp3 (List.mem_of_getElem? (i := 3) rfl)) rfl
theorem wps2_4 : Cond.selects RX11 yX11_isPoint yX11_isPoint ∈ WA := wa_sel (q := (yX11_isPoint, 30)) (wp3 (List.mem_of_getElem? (i := 4) rfl)) rfl
theorem wps2_5 : Cond.selects RX11 yX11_cell yX11_cell ∈ WA := wa_sel (q := (yX11_cell, 30)) (wp3 (List.mem_of_getElem? (i := 5) rfl)) rfl
theorem wps2_6 : Cond.selects RX11 yX11_orders yX11_orders ∈ WA := wa_sel (q := (yX11_orders, 30)) (wp3 (List.mem_of_getElem? (i := 6) rfl)) rfl
theorem wps2_7 : Cond.selects RX11 yX11_isCell yX11_isCell ∈ WA := wa_sel (q := (yX11_isCell, 30)) (wp3 (List.mem_of_getElem? (i := 7) rfl)) rfl
theorem wps2_8 : Cond.selects RX11 yX11_isStep yX11_isStep ∈ WA := wa_sel (q := (yX11_isStep, 30)) (wp3 (List.mem_of_getElem? (i := 8) rfl)) rfl
theorem wps2_9 : Cond.selects RX11 yX11_finds yX11_finds ∈ WA := wa_sel (q := (yX11_finds, 30)) (wp3 (List.mem_of_getElem? (i := 9) rfl)) rfl
theorem wps2_10 : Cond.selects RX11 yX11_lives yX11_lives ∈ WA := wa_sel (q := (yX11_lives, 30)) (wp3 (List.mem_of_getElem? (i := 10) rfl)) rfl
theorem wps2_11 : Cond.selects RX11 yX11_most yX11_most ∈ WA := wa_sel (q := (yX11_most, 30)) (wp3 (List.mem_of_getElem? (i := 11) rfl)) rfl
theorem wps2_12 : Cond.selects RX11 yX11_conflicts yX11_conflicts ∈ WA := wa_sel (q := (yX11_conflicts, 30)) (wp3 (List.mem_of_getElem? (i := 12) rfl)) rfl
theorem wps2_13 : Cond.selects RX11 yX11_areInConflict yX11_areInConflict ∈ WA := wa_sel (q := (yX11_areInConflict, 30)) (wp3 (List.mem_of_getElem? (i := 13) rfl)) rfl
theorem wps2_14 : Cond.selects RX11 yX11_gives yX11_gives ∈ WA := wa_sel (q := (yX11_gives, 30)) (wp3 (List.mem_of_getElem? (i := 14) rfl)) rfl
theorem wps2_15 : Cond.selects RX11 yX11_size yX11_size ∈ WA := wa_sel (q := (yX11_size, 30)) (wp3 (List.mem_of_getElem? (i := 15) rfl)) rfl
theorem wp4 {q : MethodName × Nat} (h : q ∈ lw_privs_4) : q ∈ lw_privs := List.mem_append_right _ (List.mem_append_right _ (List.mem_append_right _ (h)))
theorem wps3_0 : Cond.selects RX11 yX11_differs yX11_differs ∈ WA := wa_sel (q := (yX11_differs, 30)) (wp4 (List.mem_of_getElem? (i := 0) rfl)) rfl
theorem wps3_1 : Cond.selects RX11 yX11_rest yX11_rest ∈ WA := wa_sel (q := (yX11_rest, 30)) (wp4 (List.mem_of_getElem? (i := 1) rfl)) rfl
theorem wps3_2 : Cond.selects RX11 yX11_isRest yX11_isRest ∈ WA := wa_sel (q := (yX11_isRest, 30)) (wp4 (List.mem_of_getElem? (i := 2) rfl)) rfl
theorem wps3_3 : Cond.selects RX11 yX11_two yX11_two ∈ WA := wa_sel (q := (yX11_two, 30)) (wp4 (List.mem_of_getElem? (i := 3) rfl)) rfl
theorem wps3_4 : Cond.selects RX11 yX11_isTwo yX11_isTwo ∈ WA := wa_sel (q := (yX11_isTwo, 30)) (wp4 (List.mem_of_getElem? (i := 4) rfl)) rfl
theorem wps3_5 : Cond.selects RX11 yX11_slant yX11_slant ∈ WA := wa_sel (q := (yX11_slant, 30)) (wp4 (List.mem_of_getElem? (i := 5) rfl)) rfl
theorem wps3_6 : Cond.selects RX11 yX11_isSlant yX11_isSlant ∈ WA := wa_sel (q := (yX11_isSlant, 30)) (wp4 (List.mem_of_getElem? (i := 6) rfl)) rfl
theorem wps3_7 : Cond.selects RX11 yX11_rooms yX11_rooms ∈ WA := wa_sel (q := (yX11_rooms, 30)) (wp4 (List.mem_of_getElem? (i := 7) rfl)) rfl
theorem wps3_8 : Cond.selects RX11 yX11_place yX11_place ∈ WA := wa_sel (q := (yX11_place, 30)) (wp4 (List.mem_of_getElem? (i := 8) rfl)) rfl
theorem wps3_9 : Cond.selects RX11 yX11_seeks yX11_seeks ∈ WA := wa_sel (q := (yX11_seeks, 30)) (wp4 (List.mem_of_getElem? (i := 9) rfl)) rfl
theorem wps3_10 : Cond.selects RX11 yX11_distances yX11_distances ∈ WA := wa_sel (q := (yX11_distances, 30)) (wp4 (List.mem_of_getElem? (i := 10) rfl)) rfl
theorem wps3_11 : Cond.selects RX11 yX11_divides yX11_divides ∈ WA := wa_sel (q := (yX11_divides, 30)) (wp4 (List.mem_of_getElem? (i := 11) rfl)) rfl
theorem wps3_12 : Cond.selects RX11 yX11_works yX11_works ∈ WA := wa_sel (q := (yX11_works, 30)) (wp4 (List.mem_of_getElem? (i := 12) rfl)) rfl
theorem wps3_13 : Cond.selects RX11 yX11_hasBest yX11_hasBest ∈ WA := wa_sel (q := (yX11_hasBest, 30)) (wp4 (List.mem_of_getElem? (i := 13) rfl)) rfl
theorem w64 : Cond.lays "java/util/ArrayList" "java/util/ArrayList" "size" "I" ∈ WA := wa_of (wm1 (List.mem_of_getElem? (i := 64) rfl)) rfl
theorem w62 : Cond.lays "java/util/ArrayList" "java/util/ArrayList" "elementData" "[Ljava/lang/Object;" ∈ WA := wa_of (wm1 (List.mem_of_getElem? (i := 62) rfl)) rfl
theorem w66 : Cond.lays "java/util/ArrayList" "java/util/AbstractList" "modCount" "I" ∈ WA := wa_of (wm1 (List.mem_of_getElem? (i := 66) rfl)) rfl
theorem iwJx4a65c : ∀ w ∈ u_ws RJx4a65c TJx4a65c 3, w ∈ WA := List.forall_mem_cons.mpr ⟨w66, List.forall_mem_cons.mpr ⟨w62, List.forall_mem_cons.mpr ⟨w64, List.forall_mem_nil _⟩⟩⟩
theorem w231 : Cond.lays "CellWindows$Best" "CellWindows$Best" "room" "I" ∈ WA := wa_of (wm1 (List.mem_of_getElem? (i := 231) rfl)) rfl
theorem w229 : Cond.lays "CellWindows$Best" "CellWindows$Best" "columnWeight" "I" ∈ WA := wa_of (wm1 (List.mem_of_getElem? (i := 229) rfl)) rfl
theorem w227 : Cond.lays "CellWindows$Best" "CellWindows$Best" "rowWeight" "I" ∈ WA := wa_of (wm1 (List.mem_of_getElem? (i := 227) rfl)) rfl
theorem w225 : Cond.lays "CellWindows$Best" "CellWindows$Best" "found" "Z" ∈ WA := wa_of (wm1 (List.mem_of_getElem? (i := 225) rfl)) rfl
theorem iwX1 : ∀ w ∈ u_ws RX1 TX1 4, w ∈ WA := List.forall_mem_cons.mpr ⟨w225, List.forall_mem_cons.mpr ⟨w227, List.forall_mem_cons.mpr ⟨w229, List.forall_mem_cons.mpr ⟨w231, List.forall_mem_nil _⟩⟩⟩⟩
theorem w164 : Cond.lays "CellWindows$Differences" "CellWindows$Differences" "columns" "I" ∈ WA := wa_of (wm1 (List.mem_of_getElem? (i := 164) rfl)) rfl
theorem w162 : Cond.lays "CellWindows$Differences" "CellWindows$Differences" "rows" "I" ∈ WA := wa_of (wm1 (List.mem_of_getElem? (i := 162) rfl)) rfl
theorem w160 : Cond.lays "CellWindows$Differences" "CellWindows$Differences" "count" "I" ∈ WA := wa_of (wm1 (List.mem_of_getElem? (i := 160) rfl)) rfl
theorem w158 : Cond.laysFinal "CellWindows$Differences" "CellWindows$Differences" "inLine" "[Z" ∈ WA := wa_of (wm1 (List.mem_of_getElem? (i := 158) rfl)) rfl
theorem w156 : Cond.laysFinal "CellWindows$Differences" "CellWindows$Differences" "columnDifference" "[I" ∈ WA := wa_of (wm1 (List.mem_of_getElem? (i := 156) rfl)) rfl
theorem w154 : Cond.laysFinal "CellWindows$Differences" "CellWindows$Differences" "rowDifference" "[I" ∈ WA := wa_of (wm1 (List.mem_of_getElem? (i := 154) rfl)) rfl
theorem w152 : Cond.laysFinal "CellWindows$Differences" "CellWindows$Differences" "known" "[Z" ∈ WA := wa_of (wm1 (List.mem_of_getElem? (i := 152) rfl)) rfl
theorem iwX2 : ∀ w ∈ u_ws RX2 TX2 7, w ∈ WA := List.forall_mem_cons.mpr ⟨w152, List.forall_mem_cons.mpr ⟨w154, List.forall_mem_cons.mpr ⟨w156, List.forall_mem_cons.mpr ⟨w158, List.forall_mem_cons.mpr ⟨w160, List.forall_mem_cons.mpr ⟨w162, List.forall_mem_cons.mpr ⟨w164, List.forall_mem_nil _⟩⟩⟩⟩⟩⟩⟩
theorem w208 : Cond.laysFinal "CellWindows$Machine" "CellWindows$Machine" "kept" "[[I" ∈ WA := wa_of (wm1 (List.mem_of_getElem? (i := 208) rfl)) rfl
theorem w206 : Cond.laysFinal "CellWindows$Machine" "CellWindows$Machine" "contracted" "Z" ∈ WA := wa_of (wm1 (List.mem_of_getElem? (i := 206) rfl)) rfl
theorem iwX4 : ∀ w ∈ u_ws RX4 TX4 2, w ∈ WA := List.forall_mem_cons.mpr ⟨w206, List.forall_mem_cons.mpr ⟨w208, List.forall_mem_nil _⟩⟩
theorem w89 : Cond.lays "CellWindows$Program" "CellWindows$Program" "points" "I" ∈ WA := wa_of (wm1 (List.mem_of_getElem? (i := 89) rfl)) rfl
theorem w87 : Cond.lays "CellWindows$Program" "CellWindows$Program" "columns" "I" ∈ WA := wa_of (wm1 (List.mem_of_getElem? (i := 87) rfl)) rfl
theorem w85 : Cond.lays "CellWindows$Program" "CellWindows$Program" "rows" "I" ∈ WA := wa_of (wm1 (List.mem_of_getElem? (i := 85) rfl)) rfl
theorem w83 : Cond.laysFinal "CellWindows$Program" "CellWindows$Program" "statements" "Ljava/util/ArrayList;" ∈ WA := wa_of (wm1 (List.mem_of_getElem? (i := 83) rfl)) rfl
theorem iwX5 : ∀ w ∈ u_ws RX5 TX5 4, w ∈ WA := List.forall_mem_cons.mpr ⟨w83, List.forall_mem_cons.mpr ⟨w85, List.forall_mem_cons.mpr ⟨w87, List.forall_mem_cons.mpr ⟨w89, List.forall_mem_nil _⟩⟩⟩⟩
theorem w752 : Cond.laysFinal "CellWindows$Read" "CellWindows$Read" "columnsBack" "I" ∈ WA := wa_of (wm4 (List.mem_of_getElem? (i := 32) rfl)) rfl
theorem w750 : Cond.laysFinal "CellWindows$Read" "CellWindows$Read" "rowsBack" "I" ∈ WA := wa_of (wm4 (List.mem_of_getElem? (i := 30) rfl)) rfl
theorem w748 : Cond.laysFinal "CellWindows$Read" "CellWindows$Read" "factor" "I" ∈ WA := wa_of (wm4 (List.mem_of_getElem? (i := 28) rfl)) rfl
theorem w746 : Cond.laysFinal "CellWindows$Read" "CellWindows$Read" "source" "I" ∈ WA := wa_of (wm4 (List.mem_of_getElem? (i := 26) rfl)) rfl
theorem iwX6 : ∀ w ∈ u_ws RX6 TX6 4, w ∈ WA := List.forall_mem_cons.mpr ⟨w746, List.forall_mem_cons.mpr ⟨w748, List.forall_mem_cons.mpr ⟨w750, List.forall_mem_cons.mpr ⟨w752, List.forall_mem_nil _⟩⟩⟩⟩
theorem w634 : Cond.lays "CellWindows$Statement" "CellWindows$Statement" "lasting" "Z" ∈ WA := wa_of (wm3 (List.mem_of_getElem? (i := 154) rfl)) rfl
theorem w632 : Cond.lays "CellWindows$Statement" "CellWindows$Statement" "offset" "I" ∈ WA := wa_of (wm3 (List.mem_of_getElem? (i := 152) rfl)) rfl
theorem w630 : Cond.laysFinal "CellWindows$Statement" "CellWindows$Statement" "window" "LCellWindows$Window;" ∈ WA := wa_of (wm3 (List.mem_of_getElem? (i := 150) rfl)) rfl
theorem w628 : Cond.laysFinal "CellWindows$Statement" "CellWindows$Statement" "reads" "Ljava/util/ArrayList;" ∈ WA := wa_of (wm3 (List.mem_of_getElem? (i := 148) rfl)) rfl
theorem w626 : Cond.laysFinal "CellWindows$Statement" "CellWindows$Statement" "addend" "I" ∈ WA := wa_of (wm3 (List.mem_of_getElem? (i := 146) rfl)) rfl
theorem iwX7 : ∀ w ∈ u_ws RX7 TX7 5, w ∈ WA := List.forall_mem_cons.mpr ⟨w626, List.forall_mem_cons.mpr ⟨w628, List.forall_mem_cons.mpr ⟨w630, List.forall_mem_cons.mpr ⟨w632, List.forall_mem_cons.mpr ⟨w634, List.forall_mem_nil _⟩⟩⟩⟩⟩
theorem w193 : Cond.lays "CellWindows$Window" "CellWindows$Window" "slant" "I" ∈ WA := wa_of (wm1 (List.mem_of_getElem? (i := 193) rfl)) rfl
theorem w191 : Cond.lays "CellWindows$Window" "CellWindows$Window" "columnModulus" "I" ∈ WA := wa_of (wm1 (List.mem_of_getElem? (i := 191) rfl)) rfl
theorem w189 : Cond.lays "CellWindows$Window" "CellWindows$Window" "rowModulus" "I" ∈ WA := wa_of (wm1 (List.mem_of_getElem? (i := 189) rfl)) rfl
theorem w187 : Cond.lays "CellWindows$Window" "CellWindows$Window" "modulus" "I" ∈ WA := wa_of (wm1 (List.mem_of_getElem? (i := 187) rfl)) rfl
theorem w185 : Cond.lays "CellWindows$Window" "CellWindows$Window" "kind" "LCellWindows$Kind;" ∈ WA := wa_of (wm1 (List.mem_of_getElem? (i := 185) rfl)) rfl
theorem iwX8 : ∀ w ∈ u_ws RX8 TX8 5, w ∈ WA := List.forall_mem_cons.mpr ⟨w185, List.forall_mem_cons.mpr ⟨w187, List.forall_mem_cons.mpr ⟨w189, List.forall_mem_cons.mpr ⟨w191, List.forall_mem_cons.mpr ⟨w193, List.forall_mem_nil _⟩⟩⟩⟩⟩
theorem w135 : Cond.lays "CellWindows$Work" "CellWindows$Work" "cells" "I" ∈ WA := wa_of (wm1 (List.mem_of_getElem? (i := 135) rfl)) rfl
theorem w133 : Cond.laysFinal "CellWindows$Work" "CellWindows$Work" "change" "[I" ∈ WA := wa_of (wm1 (List.mem_of_getElem? (i := 133) rfl)) rfl
theorem w131 : Cond.laysFinal "CellWindows$Work" "CellWindows$Work" "nextStep" "[I" ∈ WA := wa_of (wm1 (List.mem_of_getElem? (i := 131) rfl)) rfl
theorem w129 : Cond.laysFinal "CellWindows$Work" "CellWindows$Work" "time" "[I" ∈ WA := wa_of (wm1 (List.mem_of_getElem? (i := 129) rfl)) rfl
theorem w127 : Cond.laysFinal "CellWindows$Work" "CellWindows$Work" "cellAt" "[I" ∈ WA := wa_of (wm1 (List.mem_of_getElem? (i := 127) rfl)) rfl
theorem w125 : Cond.laysFinal "CellWindows$Work" "CellWindows$Work" "end" "[I" ∈ WA := wa_of (wm1 (List.mem_of_getElem? (i := 125) rfl)) rfl
theorem w123 : Cond.laysFinal "CellWindows$Work" "CellWindows$Work" "birth" "[I" ∈ WA := wa_of (wm1 (List.mem_of_getElem? (i := 123) rfl)) rfl
theorem w121 : Cond.laysFinal "CellWindows$Work" "CellWindows$Work" "column" "[I" ∈ WA := wa_of (wm1 (List.mem_of_getElem? (i := 121) rfl)) rfl
theorem w119 : Cond.laysFinal "CellWindows$Work" "CellWindows$Work" "row" "[I" ∈ WA := wa_of (wm1 (List.mem_of_getElem? (i := 119) rfl)) rfl
theorem w117 : Cond.laysFinal "CellWindows$Work" "CellWindows$Work" "number" "[I" ∈ WA := wa_of (wm1 (List.mem_of_getElem? (i := 117) rfl)) rfl
theorem iwX9 : ∀ w ∈ u_ws RX9 TX9 10, w ∈ WA := List.forall_mem_cons.mpr ⟨w117, List.forall_mem_cons.mpr ⟨w119, List.forall_mem_cons.mpr ⟨w121, List.forall_mem_cons.mpr ⟨w123, List.forall_mem_cons.mpr ⟨w125, List.forall_mem_cons.mpr ⟨w127, List.forall_mem_cons.mpr ⟨w129, List.forall_mem_cons.mpr ⟨w131, List.forall_mem_cons.mpr ⟨w133, List.forall_mem_cons.mpr ⟨w135, List.forall_mem_nil _⟩⟩⟩⟩⟩⟩⟩⟩⟩⟩
theorem w259 : Cond.lays "CellWindows" "CellWindows" "columnWeight" "I" ∈ WA := wa_of (wm2 (List.mem_of_getElem? (i := 19) rfl)) rfl
theorem w257 : Cond.lays "CellWindows" "CellWindows" "rowWeight" "I" ∈ WA := wa_of (wm2 (List.mem_of_getElem? (i := 17) rfl)) rfl
theorem w255 : Cond.laysFinal "CellWindows" "CellWindows" "best" "LCellWindows$Best;" ∈ WA := wa_of (wm2 (List.mem_of_getElem? (i := 15) rfl)) rfl
theorem w253 : Cond.laysFinal "CellWindows" "CellWindows" "contractedMachine" "LCellWindows$Machine;" ∈ WA := wa_of (wm2 (List.mem_of_getElem? (i := 13) rfl)) rfl
theorem w251 : Cond.laysFinal "CellWindows" "CellWindows" "plainMachine" "LCellWindows$Machine;" ∈ WA := wa_of (wm2 (List.mem_of_getElem? (i := 11) rfl)) rfl
theorem w249 : Cond.laysFinal "CellWindows" "CellWindows" "least" "LCellWindows$Window;" ∈ WA := wa_of (wm2 (List.mem_of_getElem? (i := 9) rfl)) rfl
theorem w247 : Cond.laysFinal "CellWindows" "CellWindows" "differences" "LCellWindows$Differences;" ∈ WA := wa_of (wm2 (List.mem_of_getElem? (i := 7) rfl)) rfl
theorem w245 : Cond.laysFinal "CellWindows" "CellWindows" "work" "LCellWindows$Work;" ∈ WA := wa_of (wm2 (List.mem_of_getElem? (i := 5) rfl)) rfl
theorem w243 : Cond.laysFinal "CellWindows" "CellWindows" "program" "LCellWindows$Program;" ∈ WA := wa_of (wm2 (List.mem_of_getElem? (i := 3) rfl)) rfl
theorem iwX10 : ∀ w ∈ u_ws RX10 TX10 9, w ∈ WA := List.forall_mem_cons.mpr ⟨w243, List.forall_mem_cons.mpr ⟨w245, List.forall_mem_cons.mpr ⟨w247, List.forall_mem_cons.mpr ⟨w249, List.forall_mem_cons.mpr ⟨w251, List.forall_mem_cons.mpr ⟨w253, List.forall_mem_cons.mpr ⟨w255, List.forall_mem_cons.mpr ⟨w257, List.forall_mem_cons.mpr ⟨w259, List.forall_mem_nil _⟩⟩⟩⟩⟩⟩⟩⟩⟩
theorem w1158 : Cond.lays "CellWindowsModel" "CellWindowsModel" "thrown" "I" ∈ WA := wa_of (wm5 (List.mem_of_getElem? (i := 198) rfl)) rfl
theorem w1156 : Cond.lays "CellWindowsModel" "CellWindowsModel" "bestColumn" "I" ∈ WA := wa_of (wm5 (List.mem_of_getElem? (i := 196) rfl)) rfl
theorem w1154 : Cond.lays "CellWindowsModel" "CellWindowsModel" "bestRow" "I" ∈ WA := wa_of (wm5 (List.mem_of_getElem? (i := 194) rfl)) rfl
theorem w1152 : Cond.lays "CellWindowsModel" "CellWindowsModel" "best" "I" ∈ WA := wa_of (wm5 (List.mem_of_getElem? (i := 192) rfl)) rfl
theorem w1150 : Cond.laysFinal "CellWindowsModel" "CellWindowsModel" "away" "[Z" ∈ WA := wa_of (wm5 (List.mem_of_getElem? (i := 190) rfl)) rfl
theorem w1148 : Cond.laysFinal "CellWindowsModel" "CellWindowsModel" "apart" "[Z" ∈ WA := wa_of (wm5 (List.mem_of_getElem? (i := 188) rfl)) rfl
theorem w1146 : Cond.laysFinal "CellWindowsModel" "CellWindowsModel" "change" "[I" ∈ WA := wa_of (wm5 (List.mem_of_getElem? (i := 186) rfl)) rfl
theorem w1144 : Cond.laysFinal "CellWindowsModel" "CellWindowsModel" "written" "[I" ∈ WA := wa_of (wm5 (List.mem_of_getElem? (i := 184) rfl)) rfl
theorem w1142 : Cond.laysFinal "CellWindowsModel" "CellWindowsModel" "kept" "[I" ∈ WA := wa_of (wm5 (List.mem_of_getElem? (i := 182) rfl)) rfl
theorem w1140 : Cond.laysFinal "CellWindowsModel" "CellWindowsModel" "value" "[I" ∈ WA := wa_of (wm5 (List.mem_of_getElem? (i := 180) rfl)) rfl
theorem w1138 : Cond.laysFinal "CellWindowsModel" "CellWindowsModel" "end" "[I" ∈ WA := wa_of (wm5 (List.mem_of_getElem? (i := 178) rfl)) rfl
theorem w1136 : Cond.laysFinal "CellWindowsModel" "CellWindowsModel" "cellAt" "[I" ∈ WA := wa_of (wm5 (List.mem_of_getElem? (i := 176) rfl)) rfl
theorem w1134 : Cond.laysFinal "CellWindowsModel" "CellWindowsModel" "step" "[I" ∈ WA := wa_of (wm5 (List.mem_of_getElem? (i := 174) rfl)) rfl
theorem w1132 : Cond.laysFinal "CellWindowsModel" "CellWindowsModel" "many" "[I" ∈ WA := wa_of (wm5 (List.mem_of_getElem? (i := 172) rfl)) rfl
theorem w1130 : Cond.laysFinal "CellWindowsModel" "CellWindowsModel" "second" "[I" ∈ WA := wa_of (wm5 (List.mem_of_getElem? (i := 170) rfl)) rfl
theorem w1128 : Cond.laysFinal "CellWindowsModel" "CellWindowsModel" "first" "[I" ∈ WA := wa_of (wm5 (List.mem_of_getElem? (i := 168) rfl)) rfl
theorem w1126 : Cond.laysFinal "CellWindowsModel" "CellWindowsModel" "kind" "[I" ∈ WA := wa_of (wm5 (List.mem_of_getElem? (i := 166) rfl)) rfl
theorem w1124 : Cond.lays "CellWindowsModel" "CellWindowsModel" "columnWeight" "I" ∈ WA := wa_of (wm5 (List.mem_of_getElem? (i := 164) rfl)) rfl
theorem w1122 : Cond.lays "CellWindowsModel" "CellWindowsModel" "rowWeight" "I" ∈ WA := wa_of (wm5 (List.mem_of_getElem? (i := 162) rfl)) rfl
theorem w1120 : Cond.laysFinal "CellWindowsModel" "CellWindowsModel" "offset" "[I" ∈ WA := wa_of (wm5 (List.mem_of_getElem? (i := 160) rfl)) rfl
theorem w1118 : Cond.laysFinal "CellWindowsModel" "CellWindowsModel" "isLasting" "[Z" ∈ WA := wa_of (wm5 (List.mem_of_getElem? (i := 158) rfl)) rfl
theorem w1116 : Cond.laysFinal "CellWindowsModel" "CellWindowsModel" "columnsBack" "[I" ∈ WA := wa_of (wm5 (List.mem_of_getElem? (i := 156) rfl)) rfl
theorem w1114 : Cond.laysFinal "CellWindowsModel" "CellWindowsModel" "rowsBack" "[I" ∈ WA := wa_of (wm5 (List.mem_of_getElem? (i := 154) rfl)) rfl
theorem w1112 : Cond.laysFinal "CellWindowsModel" "CellWindowsModel" "factor" "[I" ∈ WA := wa_of (wm5 (List.mem_of_getElem? (i := 152) rfl)) rfl
theorem w1110 : Cond.laysFinal "CellWindowsModel" "CellWindowsModel" "source" "[I" ∈ WA := wa_of (wm5 (List.mem_of_getElem? (i := 150) rfl)) rfl
theorem w1108 : Cond.laysFinal "CellWindowsModel" "CellWindowsModel" "reads" "[I" ∈ WA := wa_of (wm5 (List.mem_of_getElem? (i := 148) rfl)) rfl
theorem w1106 : Cond.laysFinal "CellWindowsModel" "CellWindowsModel" "addend" "[I" ∈ WA := wa_of (wm5 (List.mem_of_getElem? (i := 146) rfl)) rfl
theorem w1104 : Cond.lays "CellWindowsModel" "CellWindowsModel" "statements" "I" ∈ WA := wa_of (wm5 (List.mem_of_getElem? (i := 144) rfl)) rfl
theorem w1102 : Cond.lays "CellWindowsModel" "CellWindowsModel" "columns" "I" ∈ WA := wa_of (wm5 (List.mem_of_getElem? (i := 142) rfl)) rfl
theorem w1100 : Cond.lays "CellWindowsModel" "CellWindowsModel" "rows" "I" ∈ WA := wa_of (wm5 (List.mem_of_getElem? (i := 140) rfl)) rfl
theorem iwX11 : ∀ w ∈ u_ws RX11 TX11 30, w ∈ WA := List.forall_mem_cons.mpr ⟨w1100, List.forall_mem_cons.mpr ⟨w1102, List.forall_mem_cons.mpr ⟨w1104, List.forall_mem_cons.mpr ⟨w1106, List.forall_mem_cons.mpr ⟨w1108, List.forall_mem_cons.mpr ⟨w1110, List.forall_mem_cons.mpr ⟨w1112, List.forall_mem_cons.mpr ⟨w1114, List.forall_mem_cons.mpr ⟨w1116, List.forall_mem_cons.mpr ⟨w1118, List.forall_mem_cons.mpr ⟨w1120, List.forall_mem_cons.mpr ⟨w1122, List.forall_mem_cons.mpr ⟨w1124, List.forall_mem_cons.mpr ⟨w1126, List.forall_mem_cons.mpr ⟨w1128, List.forall_mem_cons.mpr ⟨w1130, List.forall_mem_cons.mpr ⟨w1132, List.forall_mem_cons.mpr ⟨w1134, List.forall_mem_cons.mpr ⟨w1136, List.forall_mem_cons.mpr ⟨w1138, List.forall_mem_cons.mpr ⟨w1140, List.forall_mem_cons.mpr ⟨w1142, List.forall_mem_cons.mpr ⟨w1144, List.forall_mem_cons.mpr ⟨w1146, List.forall_mem_cons.mpr ⟨w1148, List.forall_mem_cons.mpr ⟨w1150, List.forall_mem_cons.mpr ⟨w1152, List.forall_mem_cons.mpr ⟨w1154, List.forall_mem_cons.mpr ⟨w1156, List.forall_mem_cons.mpr ⟨w1158, List.forall_mem_nil _⟩⟩⟩⟩⟩⟩⟩⟩⟩⟩⟩⟩⟩⟩⟩⟩⟩⟩⟩⟩⟩⟩⟩⟩⟩⟩⟩⟩⟩⟩

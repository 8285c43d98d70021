/-! the reference: its state as numbers, its world, one-instruction rows on it -/
abbrev St : Type := Nat → Int → Int
def up (σ : St) (k : Nat) (i v : Int) : St := fun k2 => if k2 = k then fup (σ k) i v else σ k2
theorem up_eq (σ : St) (k : Nat) (i v : Int) : up σ k i v k = fup (σ k) i v := if_pos rfl
theorem up_ne {σ : St} {k j : Nat} {i v : Int} (h : j ≠ k) : up σ k i v j = σ j := if_neg h
def mF (a : Nat → Nat) (σ : St) : List Value := [.int (zI (σ 0 0)), .int (zI (σ 0 1)), .int (zI (σ 0 2)), .ref (a 3), .ref (a 4), .ref (a 5), .ref (a 6), .ref (a 7), .ref (a 8), .ref (a 9), .ref (a 10), .int (zI (σ 0 11)), .int (zI (σ 0 12)), .ref (a 13), .ref (a 14), .ref (a 15), .ref (a 16), .ref (a 17), .ref (a 18), .ref (a 19), .ref (a 20), .ref (a 21), .ref (a 22), .ref (a 23), .ref (a 24), .ref (a 25), .int (zI (σ 1 26)), .int (zI (σ 1 27)), .int (zI (σ 1 28)), .int (zI (σ 1 29))]
def mW (a : Nat → Nat) (σ : St) : vWd := [(a 0, .inr (10, mF a σ)), (a 3, .inl (0, 4, .inl (zA (σ 3)))), (a 4, .inl (0, 4, .inl (zA (σ 4)))), (a 5, .inl (0, 16, .inl (zA (σ 5)))), (a 6, .inl (0, 16, .inl (zA (σ 6)))), (a 7, .inl (0, 16, .inl (zA (σ 7)))), (a 8, .inl (0, 16, .inl (zA (σ 8)))), (a 9, .inl (1, 4, .inl (zA (σ 9)))), (a 10, .inl (0, 4, .inl (zA (σ 10)))), (a 13, .inl (0, 4, .inl (zA (σ 13)))), (a 14, .inl (0, 4, .inl (zA (σ 14)))), (a 15, .inl (0, 4, .inl (zA (σ 15)))), (a 16, .inl (0, 161, .inl (zA (σ 16)))), (a 17, .inl (0, 256, .inl (zA (σ 17)))), (a 18, .inl (0, 256, .inl (zA (σ 18)))), (a 19, .inl (0, 256, .inl (zA (σ 19)))), (a 20, .inl (0, 256, .inl (zA (σ 20)))), (a 21, .inl (0, 2816, .inl (zA (σ 21)))), (a 22, .inl (0, 256, .inl (zA (σ 22)))), (a 23, .inl (0, 258, .inl (zA (σ 23)))), (a 24, .inl (1, 225, .inl (zA (σ 24)))), (a 25, .inl (1, 64, .inl (zA (σ 25))))]
section MROWS
variable {K : KT} {S : SI} {k n : Nat} {a : Nat → Nat} {σ : St} {L : List (Option Value)} {st : List Value} {pc : Nat}
theorem mF_rows (v : Int) : (mF a σ).set 0 (.int (zI v)) = mF a (up σ 0 0 v) := rfl
theorem mset_rows (v : Int) : (mW a σ).set 0 (a 0, .inr (10, (mF a σ).set 0 (.int (zI v)))) = mW a (up σ 0 0 v) := rfl
theorem mF_columns (v : Int) : (mF a σ).set 1 (.int (zI v)) = mF a (up σ 0 1 v) := rfl
theorem mset_columns (v : Int) : (mW a σ).set 0 (a 0, .inr (10, (mF a σ).set 1 (.int (zI v)))) = mW a (up σ 0 1 v) := rfl
theorem mF_statements (v : Int) : (mF a σ).set 2 (.int (zI v)) = mF a (up σ 0 2 v) := rfl
theorem mset_statements (v : Int) : (mW a σ).set 0 (a 0, .inr (10, (mF a σ).set 2 (.int (zI v)))) = mW a (up σ 0 2 v) := rfl
theorem mF_rowWeight (v : Int) : (mF a σ).set 11 (.int (zI v)) = mF a (up σ 0 11 v) := rfl
theorem mset_rowWeight (v : Int) : (mW a σ).set 0 (a 0, .inr (10, (mF a σ).set 11 (.int (zI v)))) = mW a (up σ 0 11 v) := rfl
theorem mF_columnWeight (v : Int) : (mF a σ).set 12 (.int (zI v)) = mF a (up σ 0 12 v) := rfl
theorem mset_columnWeight (v : Int) : (mW a σ).set 0 (a 0, .inr (10, (mF a σ).set 12 (.int (zI v)))) = mW a (up σ 0 12 v) := rfl
theorem mF_best (v : Int) : (mF a σ).set 26 (.int (zI v)) = mF a (up σ 1 26 v) := rfl
theorem mset_best (v : Int) : (mW a σ).set 0 (a 0, .inr (10, (mF a σ).set 26 (.int (zI v)))) = mW a (up σ 1 26 v) := rfl
theorem mF_bestRow (v : Int) : (mF a σ).set 27 (.int (zI v)) = mF a (up σ 1 27 v) := rfl
theorem mset_bestRow (v : Int) : (mW a σ).set 0 (a 0, .inr (10, (mF a σ).set 27 (.int (zI v)))) = mW a (up σ 1 27 v) := rfl
theorem mF_bestColumn (v : Int) : (mF a σ).set 28 (.int (zI v)) = mF a (up σ 1 28 v) := rfl
theorem mset_bestColumn (v : Int) : (mW a σ).set 0 (a 0, .inr (10, (mF a σ).set 28 (.int (zI v)))) = mW a (up σ 1 28 v) := rfl
theorem mF_thrown (v : Int) : (mF a σ).set 29 (.int (zI v)) = mF a (up σ 1 29 v) := rfl
theorem mset_thrown (v : Int) : (mW a σ).set 0 (a 0, .inr (10, (mF a σ).set 29 (.int (zI v)))) = mW a (up σ 1 29 v) := rfl
theorem mset_addend (i v : Int) : (mW a σ).set 1 (a 3, .inl (0, 4, .inl (zA (fup (σ 3) i v)))) = mW a (up σ 3 i v) := rfl
theorem mset_reads (i v : Int) : (mW a σ).set 2 (a 4, .inl (0, 4, .inl (zA (fup (σ 4) i v)))) = mW a (up σ 4 i v) := rfl
theorem mset_source (i v : Int) : (mW a σ).set 3 (a 5, .inl (0, 16, .inl (zA (fup (σ 5) i v)))) = mW a (up σ 5 i v) := rfl
theorem mset_factor (i v : Int) : (mW a σ).set 4 (a 6, .inl (0, 16, .inl (zA (fup (σ 6) i v)))) = mW a (up σ 6 i v) := rfl
theorem mset_rowsBack (i v : Int) : (mW a σ).set 5 (a 7, .inl (0, 16, .inl (zA (fup (σ 7) i v)))) = mW a (up σ 7 i v) := rfl
theorem mset_columnsBack (i v : Int) : (mW a σ).set 6 (a 8, .inl (0, 16, .inl (zA (fup (σ 8) i v)))) = mW a (up σ 8 i v) := rfl
theorem mset_isLasting (i v : Int) : (mW a σ).set 7 (a 9, .inl (1, 4, .inl (zA (fup (σ 9) i v)))) = mW a (up σ 9 i v) := rfl
theorem mset_offset (i v : Int) : (mW a σ).set 8 (a 10, .inl (0, 4, .inl (zA (fup (σ 10) i v)))) = mW a (up σ 10 i v) := rfl
theorem mset_kind (i v : Int) : (mW a σ).set 9 (a 13, .inl (0, 4, .inl (zA (fup (σ 13) i v)))) = mW a (up σ 13 i v) := rfl
theorem mset_first (i v : Int) : (mW a σ).set 10 (a 14, .inl (0, 4, .inl (zA (fup (σ 14) i v)))) = mW a (up σ 14 i v) := rfl
theorem mset_second (i v : Int) : (mW a σ).set 11 (a 15, .inl (0, 4, .inl (zA (fup (σ 15) i v)))) = mW a (up σ 15 i v) := rfl
theorem mset_many (i v : Int) : (mW a σ).set 12 (a 16, .inl (0, 161, .inl (zA (fup (σ 16) i v)))) = mW a (up σ 16 i v) := rfl
theorem mset_step (i v : Int) : (mW a σ).set 13 (a 17, .inl (0, 256, .inl (zA (fup (σ 17) i v)))) = mW a (up σ 17 i v) := rfl
theorem mset_cellAt (i v : Int) : (mW a σ).set 14 (a 18, .inl (0, 256, .inl (zA (fup (σ 18) i v)))) = mW a (up σ 18 i v) := rfl
theorem mset_end (i v : Int) : (mW a σ).set 15 (a 19, .inl (0, 256, .inl (zA (fup (σ 19) i v)))) = mW a (up σ 19 i v) := rfl
theorem mset_value (i v : Int) : (mW a σ).set 16 (a 20, .inl (0, 256, .inl (zA (fup (σ 20) i v)))) = mW a (up σ 20 i v) := rfl
theorem mset_kept (i v : Int) : (mW a σ).set 17 (a 21, .inl (0, 2816, .inl (zA (fup (σ 21) i v)))) = mW a (up σ 21 i v) := rfl
theorem mset_written (i v : Int) : (mW a σ).set 18 (a 22, .inl (0, 256, .inl (zA (fup (σ 22) i v)))) = mW a (up σ 22 i v) := rfl
theorem mset_change (i v : Int) : (mW a σ).set 19 (a 23, .inl (0, 258, .inl (zA (fup (σ 23) i v)))) = mW a (up σ 23 i v) := rfl
theorem mset_apart (i v : Int) : (mW a σ).set 20 (a 24, .inl (1, 225, .inl (zA (fup (σ 24) i v)))) = mW a (up σ 24 i v) := rfl
theorem mset_away (i v : Int) : (mW a σ).set 21 (a 25, .inl (1, 64, .inl (zA (fup (σ 25) i v)))) = mW a (up σ 25 i v) := rfl
theorem mg_rows (hs : S.2.1 = RX11) (d : decode S.1 pc = .ok (.getfield 7, 3)) (kk : V K S k n (mW a σ) L (.int (zI (σ 0 0)) :: st) (pc + 3)) : V K S k n (mW a σ) L (.ref (a 0) :: st) pc := V_getf (C0 := RX11) (T := TX11) (N := 30) (ref := "CellWindowsModel") 0 0 iwX11 (by decide) (by rw [hs]; exact w1070) (Or.inl rfl) rfl rfl rfl d kk
theorem mp_rows {v : Int} (hs : S.2.1 = RX11) (d : decode S.1 pc = .ok (.putfield 7, 3)) (kk : V K S k n (mW a (up σ 0 0 v)) L st (pc + 3)) : V K S k n (mW a σ) L (.int (zI v) :: .ref (a 0) :: st) pc := V_putf (C0 := RX11) (T := TX11) (N := 30) (ref := "CellWindowsModel") 0 0 iwX11 (by decide) (by rw [hs]; exact w1070) (Or.inl rfl) tyX11 tyX11_ok nmX11 rfl rfl rfl (by show 0 < (mF a σ).length; exact Nat.le_of_ble_eq_true rfl) rfl rfl d (by rw [mset_rows]; exact kk)
theorem mg_columns (hs : S.2.1 = RX11) (d : decode S.1 pc = .ok (.getfield 13, 3)) (kk : V K S k n (mW a σ) L (.int (zI (σ 0 1)) :: st) (pc + 3)) : V K S k n (mW a σ) L (.ref (a 0) :: st) pc := V_getf (C0 := RX11) (T := TX11) (N := 30) (ref := "CellWindowsModel") 0 1 iwX11 (by decide) (by rw [hs]; exact w1071) (Or.inl rfl) rfl rfl rfl d kk
theorem mp_columns {v : Int} (hs : S.2.1 = RX11) (d : decode S.1 pc = .ok (.putfield 13, 3)) (kk : V K S k n (mW a (up σ 0 1 v)) L st (pc + 3)) : V K S k n (mW a σ) L (.int (zI v) :: .ref (a 0) :: st) pc := V_putf (C0 := RX11) (T := TX11) (N := 30) (ref := "CellWindowsModel") 0 1 iwX11 (by decide) (by rw [hs]; exact w1071) (Or.inl rfl) tyX11 tyX11_ok nmX11 rfl rfl rfl (by show 1 < (mF a σ).length; exact Nat.le_of_ble_eq_true rfl) rfl rfl d (by rw [mset_columns]; exact kk)
theorem mg_statements (hs : S.2.1 = RX11) (d : decode S.1 pc = .ok (.getfield 87, 3)) (kk : V K S k n (mW a σ) L (.int (zI (σ 0 2)) :: st) (pc + 3)) : V K S k n (mW a σ) L (.ref (a 0) :: st) pc := V_getf (C0 := RX11) (T := TX11) (N := 30) (ref := "CellWindowsModel") 0 2 iwX11 (by decide) (by rw [hs]; exact w1072) (Or.inl rfl) rfl rfl rfl d kk
theorem mp_statements {v : Int} (hs : S.2.1 = RX11) (d : decode S.1 pc = .ok (.putfield 87, 3)) (kk : V K S k n (mW a (up σ 0 2 v)) L st (pc + 3)) : V K S k n (mW a σ) L (.int (zI v) :: .ref (a 0) :: st) pc := V_putf (C0 := RX11) (T := TX11) (N := 30) (ref := "CellWindowsModel") 0 2 iwX11 (by decide) (by rw [hs]; exact w1072) (Or.inl rfl) tyX11 tyX11_ok nmX11 rfl rfl rfl (by show 2 < (mF a σ).length; exact Nat.le_of_ble_eq_true rfl) rfl rfl d (by rw [mset_statements]; exact kk)
theorem mg_addend (hs : S.2.1 = RX11) (d : decode S.1 pc = .ok (.getfield 16, 3)) (kk : V K S k n (mW a σ) L (.ref (a 3) :: st) (pc + 3)) : V K S k n (mW a σ) L (.ref (a 0) :: st) pc := V_getf (C0 := RX11) (T := TX11) (N := 30) (ref := "CellWindowsModel") 0 3 iwX11 (by decide) (by rw [hs]; exact w1073) (Or.inl rfl) rfl rfl rfl d kk
theorem ml_addend {i : Int} (hi : 0 ≤ i ∧ i < 4) (d : decode S.1 pc = .ok (.iaload, 1)) (kk : V K S k n (mW a σ) L (.int (zI (σ 3 i)) :: st) (pc + 1)) : V K S k n (mW a σ) L (.int (zI i) :: .ref (a 3) :: st) pc := V_iald (N := 4) 1 rfl hi (by decide) d kk
theorem ms_addend {i v : Int} (hi : 0 ≤ i ∧ i < 4) (d : decode S.1 pc = .ok (.iastore, 1)) (kk : V K S k n (mW a (up σ 3 i v)) L st (pc + 1)) : V K S k n (mW a σ) L (.int (zI v) :: .int (zI i) :: .ref (a 3) :: st) pc := V_iast (N := 4) 1 rfl hi (by decide) d (by rw [mset_addend]; exact kk)
theorem mg_reads (hs : S.2.1 = RX11) (d : decode S.1 pc = .ok (.getfield 20, 3)) (kk : V K S k n (mW a σ) L (.ref (a 4) :: st) (pc + 3)) : V K S k n (mW a σ) L (.ref (a 0) :: st) pc := V_getf (C0 := RX11) (T := TX11) (N := 30) (ref := "CellWindowsModel") 0 4 iwX11 (by decide) (by rw [hs]; exact w1074) (Or.inl rfl) rfl rfl rfl d kk
theorem ml_reads {i : Int} (hi : 0 ≤ i ∧ i < 4) (d : decode S.1 pc = .ok (.iaload, 1)) (kk : V K S k n (mW a σ) L (.int (zI (σ 4 i)) :: st) (pc + 1)) : V K S k n (mW a σ) L (.int (zI i) :: .ref (a 4) :: st) pc := V_iald (N := 4) 2 rfl hi (by decide) d kk
theorem ms_reads {i v : Int} (hi : 0 ≤ i ∧ i < 4) (d : decode S.1 pc = .ok (.iastore, 1)) (kk : V K S k n (mW a (up σ 4 i v)) L st (pc + 1)) : V K S k n (mW a σ) L (.int (zI v) :: .int (zI i) :: .ref (a 4) :: st) pc := V_iast (N := 4) 2 rfl hi (by decide) d (by rw [mset_reads]; exact kk)
theorem mg_source (hs : S.2.1 = RX11) (d : decode S.1 pc = .ok (.getfield 23, 3)) (kk : V K S k n (mW a σ) L (.ref (a 5) :: st) (pc + 3)) : V K S k n (mW a σ) L (.ref (a 0) :: st) pc := V_getf (C0 := RX11) (T := TX11) (N := 30) (ref := "CellWindowsModel") 0 5 iwX11 (by decide) (by rw [hs]; exact w1075) (Or.inl rfl) rfl rfl rfl d kk
theorem ml_source {i : Int} (hi : 0 ≤ i ∧ i < 16) (d : decode S.1 pc = .ok (.iaload, 1)) (kk : V K S k n (mW a σ) L (.int (zI (σ 5 i)) :: st) (pc + 1)) : V K S k n (mW a σ) L (.int (zI i) :: .ref (a 5) :: st) pc := V_iald (N := 16) 3 rfl hi (by decide) d kk
theorem ms_source {i v : Int} (hi : 0 ≤ i ∧ i < 16) (d : decode S.1 pc = .ok (.iastore, 1)) (kk : V K S k n (mW a (up σ 5 i v)) L st (pc + 1)) : V K S k n (mW a σ) L (.int (zI v) :: .int (zI i) :: .ref (a 5) :: st) pc := V_iast (N := 16) 3 rfl hi (by decide) d (by rw [mset_source]; exact kk)
theorem mg_factor (hs : S.2.1 = RX11) (d : decode S.1 pc = .ok (.getfield 26, 3)) (kk : V K S k n (mW a σ) L (.ref (a 6) :: st) (pc + 3)) : V K S k n (mW a σ) L (.ref (a 0) :: st) pc := V_getf (C0 := RX11) (T := TX11) (N := 30) (ref := "CellWindowsModel") 0 6 iwX11 (by decide) (by rw [hs]; exact w1076) (Or.inl rfl) rfl rfl rfl d kk
theorem ml_factor {i : Int} (hi : 0 ≤ i ∧ i < 16) (d : decode S.1 pc = .ok (.iaload, 1)) (kk : V K S k n (mW a σ) L (.int (zI (σ 6 i)) :: st) (pc + 1)) : V K S k n (mW a σ) L (.int (zI i) :: .ref (a 6) :: st) pc := V_iald (N := 16) 4 rfl hi (by decide) d kk
theorem ms_factor {i v : Int} (hi : 0 ≤ i ∧ i < 16) (d : decode S.1 pc = .ok (.iastore, 1)) (kk : V K S k n (mW a (up σ 6 i v)) L st (pc + 1)) : V K S k n (mW a σ) L (.int (zI v) :: .int (zI i) :: .ref (a 6) :: st) pc := V_iast (N := 16) 4 rfl hi (by decide) d (by rw [mset_factor]; exact kk)
theorem mg_rowsBack (hs : S.2.1 = RX11) (d : decode S.1 pc = .ok (.getfield 29, 3)) (kk : V K S k n (mW a σ) L (.ref (a 7) :: st) (pc + 3)) : V K S k n (mW a σ) L (.ref (a 0) :: st) pc := V_getf (C0 := RX11) (T := TX11) (N := 30) (ref := "CellWindowsModel") 0 7 iwX11 (by decide) (by rw [hs]; exact w1077) (Or.inl rfl) rfl rfl rfl d kk
theorem ml_rowsBack {i : Int} (hi : 0 ≤ i ∧ i < 16) (d : decode S.1 pc = .ok (.iaload, 1)) (kk : V K S k n (mW a σ) L (.int (zI (σ 7 i)) :: st) (pc + 1)) : V K S k n (mW a σ) L (.int (zI i) :: .ref (a 7) :: st) pc := V_iald (N := 16) 5 rfl hi (by decide) d kk
theorem ms_rowsBack {i v : Int} (hi : 0 ≤ i ∧ i < 16) (d : decode S.1 pc = .ok (.iastore, 1)) (kk : V K S k n (mW a (up σ 7 i v)) L st (pc + 1)) : V K S k n (mW a σ) L (.int (zI v) :: .int (zI i) :: .ref (a 7) :: st) pc := V_iast (N := 16) 5 rfl hi (by decide) d (by rw [mset_rowsBack]; exact kk)
theorem mg_columnsBack (hs : S.2.1 = RX11) (d : decode S.1 pc = .ok (.getfield 32, 3)) (kk : V K S k n (mW a σ) L (.ref (a 8) :: st) (pc + 3)) : V K S k n (mW a σ) L (.ref (a 0) :: st) pc := V_getf (C0 := RX11) (T := TX11) (N := 30) (ref := "CellWindowsModel") 0 8 iwX11 (by decide) (by rw [hs]; exact w1078) (Or.inl rfl) rfl rfl rfl d kk
theorem ml_columnsBack {i : Int} (hi : 0 ≤ i ∧ i < 16) (d : decode S.1 pc = .ok (.iaload, 1)) (kk : V K S k n (mW a σ) L (.int (zI (σ 8 i)) :: st) (pc + 1)) : V K S k n (mW a σ) L (.int (zI i) :: .ref (a 8) :: st) pc := V_iald (N := 16) 6 rfl hi (by decide) d kk
theorem ms_columnsBack {i v : Int} (hi : 0 ≤ i ∧ i < 16) (d : decode S.1 pc = .ok (.iastore, 1)) (kk : V K S k n (mW a (up σ 8 i v)) L st (pc + 1)) : V K S k n (mW a σ) L (.int (zI v) :: .int (zI i) :: .ref (a 8) :: st) pc := V_iast (N := 16) 6 rfl hi (by decide) d (by rw [mset_columnsBack]; exact kk)
theorem mg_isLasting (hs : S.2.1 = RX11) (d : decode S.1 pc = .ok (.getfield 35, 3)) (kk : V K S k n (mW a σ) L (.ref (a 9) :: st) (pc + 3)) : V K S k n (mW a σ) L (.ref (a 0) :: st) pc := V_getf (C0 := RX11) (T := TX11) (N := 30) (ref := "CellWindowsModel") 0 9 iwX11 (by decide) (by rw [hs]; exact w1079) (Or.inl rfl) rfl rfl rfl d kk
theorem ml_isLasting {i : Int} (hi : 0 ≤ i ∧ i < 4) (d : decode S.1 pc = .ok (.baload, 1)) (kk : V K S k n (mW a σ) L (.int (zI (σ 9 i)) :: st) (pc + 1)) : V K S k n (mW a σ) L (.int (zI i) :: .ref (a 9) :: st) pc := V_zald (N := 4) 7 rfl hi (by decide) d kk
theorem ms_isLasting {i v : Int} (hi : 0 ≤ i ∧ i < 4) (hv : v = 0 ∨ v = 1) (d : decode S.1 pc = .ok (.bastore, 1)) (kk : V K S k n (mW a (up σ 9 i v)) L st (pc + 1)) : V K S k n (mW a σ) L (.int (zI v) :: .int (zI i) :: .ref (a 9) :: st) pc := V_zast (N := 4) 7 rfl hi (by decide) hv d (by rw [mset_isLasting]; exact kk)
theorem mg_offset (hs : S.2.1 = RX11) (d : decode S.1 pc = .ok (.getfield 39, 3)) (kk : V K S k n (mW a σ) L (.ref (a 10) :: st) (pc + 3)) : V K S k n (mW a σ) L (.ref (a 0) :: st) pc := V_getf (C0 := RX11) (T := TX11) (N := 30) (ref := "CellWindowsModel") 0 10 iwX11 (by decide) (by rw [hs]; exact w1080) (Or.inl rfl) rfl rfl rfl d kk
theorem ml_offset {i : Int} (hi : 0 ≤ i ∧ i < 4) (d : decode S.1 pc = .ok (.iaload, 1)) (kk : V K S k n (mW a σ) L (.int (zI (σ 10 i)) :: st) (pc + 1)) : V K S k n (mW a σ) L (.int (zI i) :: .ref (a 10) :: st) pc := V_iald (N := 4) 8 rfl hi (by decide) d kk
theorem ms_offset {i v : Int} (hi : 0 ≤ i ∧ i < 4) (d : decode S.1 pc = .ok (.iastore, 1)) (kk : V K S k n (mW a (up σ 10 i v)) L st (pc + 1)) : V K S k n (mW a σ) L (.int (zI v) :: .int (zI i) :: .ref (a 10) :: st) pc := V_iast (N := 4) 8 rfl hi (by decide) d (by rw [mset_offset]; exact kk)
theorem mg_rowWeight (hs : S.2.1 = RX11) (d : decode S.1 pc = .ok (.getfield 42, 3)) (kk : V K S k n (mW a σ) L (.int (zI (σ 0 11)) :: st) (pc + 3)) : V K S k n (mW a σ) L (.ref (a 0) :: st) pc := V_getf (C0 := RX11) (T := TX11) (N := 30) (ref := "CellWindowsModel") 0 11 iwX11 (by decide) (by rw [hs]; exact w1081) (Or.inl rfl) rfl rfl rfl d kk
theorem mp_rowWeight {v : Int} (hs : S.2.1 = RX11) (d : decode S.1 pc = .ok (.putfield 42, 3)) (kk : V K S k n (mW a (up σ 0 11 v)) L st (pc + 3)) : V K S k n (mW a σ) L (.int (zI v) :: .ref (a 0) :: st) pc := V_putf (C0 := RX11) (T := TX11) (N := 30) (ref := "CellWindowsModel") 0 11 iwX11 (by decide) (by rw [hs]; exact w1081) (Or.inl rfl) tyX11 tyX11_ok nmX11 rfl rfl rfl (by show 11 < (mF a σ).length; exact Nat.le_of_ble_eq_true rfl) rfl rfl d (by rw [mset_rowWeight]; exact kk)
theorem mg_columnWeight (hs : S.2.1 = RX11) (d : decode S.1 pc = .ok (.getfield 120, 3)) (kk : V K S k n (mW a σ) L (.int (zI (σ 0 12)) :: st) (pc + 3)) : V K S k n (mW a σ) L (.ref (a 0) :: st) pc := V_getf (C0 := RX11) (T := TX11) (N := 30) (ref := "CellWindowsModel") 0 12 iwX11 (by decide) (by rw [hs]; exact w1082) (Or.inl rfl) rfl rfl rfl d kk
theorem mp_columnWeight {v : Int} (hs : S.2.1 = RX11) (d : decode S.1 pc = .ok (.putfield 120, 3)) (kk : V K S k n (mW a (up σ 0 12 v)) L st (pc + 3)) : V K S k n (mW a σ) L (.int (zI v) :: .ref (a 0) :: st) pc := V_putf (C0 := RX11) (T := TX11) (N := 30) (ref := "CellWindowsModel") 0 12 iwX11 (by decide) (by rw [hs]; exact w1082) (Or.inl rfl) tyX11 tyX11_ok nmX11 rfl rfl rfl (by show 12 < (mF a σ).length; exact Nat.le_of_ble_eq_true rfl) rfl rfl d (by rw [mset_columnWeight]; exact kk)
theorem mg_kind (hs : S.2.1 = RX11) (d : decode S.1 pc = .ok (.getfield 45, 3)) (kk : V K S k n (mW a σ) L (.ref (a 13) :: st) (pc + 3)) : V K S k n (mW a σ) L (.ref (a 0) :: st) pc := V_getf (C0 := RX11) (T := TX11) (N := 30) (ref := "CellWindowsModel") 0 13 iwX11 (by decide) (by rw [hs]; exact w1083) (Or.inl rfl) rfl rfl rfl d kk
theorem ml_kind {i : Int} (hi : 0 ≤ i ∧ i < 4) (d : decode S.1 pc = .ok (.iaload, 1)) (kk : V K S k n (mW a σ) L (.int (zI (σ 13 i)) :: st) (pc + 1)) : V K S k n (mW a σ) L (.int (zI i) :: .ref (a 13) :: st) pc := V_iald (N := 4) 9 rfl hi (by decide) d kk
theorem ms_kind {i v : Int} (hi : 0 ≤ i ∧ i < 4) (d : decode S.1 pc = .ok (.iastore, 1)) (kk : V K S k n (mW a (up σ 13 i v)) L st (pc + 1)) : V K S k n (mW a σ) L (.int (zI v) :: .int (zI i) :: .ref (a 13) :: st) pc := V_iast (N := 4) 9 rfl hi (by decide) d (by rw [mset_kind]; exact kk)
theorem mg_first (hs : S.2.1 = RX11) (d : decode S.1 pc = .ok (.getfield 48, 3)) (kk : V K S k n (mW a σ) L (.ref (a 14) :: st) (pc + 3)) : V K S k n (mW a σ) L (.ref (a 0) :: st) pc := V_getf (C0 := RX11) (T := TX11) (N := 30) (ref := "CellWindowsModel") 0 14 iwX11 (by decide) (by rw [hs]; exact w1084) (Or.inl rfl) rfl rfl rfl d kk
theorem ml_first {i : Int} (hi : 0 ≤ i ∧ i < 4) (d : decode S.1 pc = .ok (.iaload, 1)) (kk : V K S k n (mW a σ) L (.int (zI (σ 14 i)) :: st) (pc + 1)) : V K S k n (mW a σ) L (.int (zI i) :: .ref (a 14) :: st) pc := V_iald (N := 4) 10 rfl hi (by decide) d kk
theorem ms_first {i v : Int} (hi : 0 ≤ i ∧ i < 4) (d : decode S.1 pc = .ok (.iastore, 1)) (kk : V K S k n (mW a (up σ 14 i v)) L st (pc + 1)) : V K S k n (mW a σ) L (.int (zI v) :: .int (zI i) :: .ref (a 14) :: st) pc := V_iast (N := 4) 10 rfl hi (by decide) d (by rw [mset_first]; exact kk)
theorem mg_second (hs : S.2.1 = RX11) (d : decode S.1 pc = .ok (.getfield 51, 3)) (kk : V K S k n (mW a σ) L (.ref (a 15) :: st) (pc + 3)) : V K S k n (mW a σ) L (.ref (a 0) :: st) pc := V_getf (C0 := RX11) (T := TX11) (N := 30) (ref := "CellWindowsModel") 0 15 iwX11 (by decide) (by rw [hs]; exact w1085) (Or.inl rfl) rfl rfl rfl d kk
theorem ml_second {i : Int} (hi : 0 ≤ i ∧ i < 4) (d : decode S.1 pc = .ok (.iaload, 1)) (kk : V K S k n (mW a σ) L (.int (zI (σ 15 i)) :: st) (pc + 1)) : V K S k n (mW a σ) L (.int (zI i) :: .ref (a 15) :: st) pc := V_iald (N := 4) 11 rfl hi (by decide) d kk
theorem ms_second {i v : Int} (hi : 0 ≤ i ∧ i < 4) (d : decode S.1 pc = .ok (.iastore, 1)) (kk : V K S k n (mW a (up σ 15 i v)) L st (pc + 1)) : V K S k n (mW a σ) L (.int (zI v) :: .int (zI i) :: .ref (a 15) :: st) pc := V_iast (N := 4) 11 rfl hi (by decide) d (by rw [mset_second]; exact kk)
theorem mg_many (hs : S.2.1 = RX11) (d : decode S.1 pc = .ok (.getfield 54, 3)) (kk : V K S k n (mW a σ) L (.ref (a 16) :: st) (pc + 3)) : V K S k n (mW a σ) L (.ref (a 0) :: st) pc := V_getf (C0 := RX11) (T := TX11) (N := 30) (ref := "CellWindowsModel") 0 16 iwX11 (by decide) (by rw [hs]; exact w1086) (Or.inl rfl) rfl rfl rfl d kk
theorem ml_many {i : Int} (hi : 0 ≤ i ∧ i < 161) (d : decode S.1 pc = .ok (.iaload, 1)) (kk : V K S k n (mW a σ) L (.int (zI (σ 16 i)) :: st) (pc + 1)) : V K S k n (mW a σ) L (.int (zI i) :: .ref (a 16) :: st) pc := V_iald (N := 161) 12 rfl hi (by decide) d kk
theorem ms_many {i v : Int} (hi : 0 ≤ i ∧ i < 161) (d : decode S.1 pc = .ok (.iastore, 1)) (kk : V K S k n (mW a (up σ 16 i v)) L st (pc + 1)) : V K S k n (mW a σ) L (.int (zI v) :: .int (zI i) :: .ref (a 16) :: st) pc := V_iast (N := 161) 12 rfl hi (by decide) d (by rw [mset_many]; exact kk)
theorem mg_step (hs : S.2.1 = RX11) (d : decode S.1 pc = .ok (.getfield 57, 3)) (kk : V K S k n (mW a σ) L (.ref (a 17) :: st) (pc + 3)) : V K S k n (mW a σ) L (.ref (a 0) :: st) pc := V_getf (C0 := RX11) (T := TX11) (N := 30) (ref := "CellWindowsModel") 0 17 iwX11 (by decide) (by rw [hs]; exact w1087) (Or.inl rfl) rfl rfl rfl d kk
theorem ml_step {i : Int} (hi : 0 ≤ i ∧ i < 256) (d : decode S.1 pc = .ok (.iaload, 1)) (kk : V K S k n (mW a σ) L (.int (zI (σ 17 i)) :: st) (pc + 1)) : V K S k n (mW a σ) L (.int (zI i) :: .ref (a 17) :: st) pc := V_iald (N := 256) 13 rfl hi (by decide) d kk
theorem ms_step {i v : Int} (hi : 0 ≤ i ∧ i < 256) (d : decode S.1 pc = .ok (.iastore, 1)) (kk : V K S k n (mW a (up σ 17 i v)) L st (pc + 1)) : V K S k n (mW a σ) L (.int (zI v) :: .int (zI i) :: .ref (a 17) :: st) pc := V_iast (N := 256) 13 rfl hi (by decide) d (by rw [mset_step]; exact kk)
theorem mg_cellAt (hs : S.2.1 = RX11) (d : decode S.1 pc = .ok (.getfield 60, 3)) (kk : V K S k n (mW a σ) L (.ref (a 18) :: st) (pc + 3)) : V K S k n (mW a σ) L (.ref (a 0) :: st) pc := V_getf (C0 := RX11) (T := TX11) (N := 30) (ref := "CellWindowsModel") 0 18 iwX11 (by decide) (by rw [hs]; exact w1088) (Or.inl rfl) rfl rfl rfl d kk
theorem ml_cellAt {i : Int} (hi : 0 ≤ i ∧ i < 256) (d : decode S.1 pc = .ok (.iaload, 1)) (kk : V K S k n (mW a σ) L (.int (zI (σ 18 i)) :: st) (pc + 1)) : V K S k n (mW a σ) L (.int (zI i) :: .ref (a 18) :: st) pc := V_iald (N := 256) 14 rfl hi (by decide) d kk
theorem ms_cellAt {i v : Int} (hi : 0 ≤ i ∧ i < 256) (d : decode S.1 pc = .ok (.iastore, 1)) (kk : V K S k n (mW a (up σ 18 i v)) L st (pc + 1)) : V K S k n (mW a σ) L (.int (zI v) :: .int (zI i) :: .ref (a 18) :: st) pc := V_iast (N := 256) 14 rfl hi (by decide) d (by rw [mset_cellAt]; exact kk)
theorem mg_end (hs : S.2.1 = RX11) (d : decode S.1 pc = .ok (.getfield 63, 3)) (kk : V K S k n (mW a σ) L (.ref (a 19) :: st) (pc + 3)) : V K S k n (mW a σ) L (.ref (a 0) :: st) pc := V_getf (C0 := RX11) (T := TX11) (N := 30) (ref := "CellWindowsModel") 0 19 iwX11 (by decide) (by rw [hs]; exact w1089) (Or.inl rfl) rfl rfl rfl d kk
theorem ml_end {i : Int} (hi : 0 ≤ i ∧ i < 256) (d : decode S.1 pc = .ok (.iaload, 1)) (kk : V K S k n (mW a σ) L (.int (zI (σ 19 i)) :: st) (pc + 1)) : V K S k n (mW a σ) L (.int (zI i) :: .ref (a 19) :: st) pc := V_iald (N := 256) 15 rfl hi (by decide) d kk
theorem ms_end {i v : Int} (hi : 0 ≤ i ∧ i < 256) (d : decode S.1 pc = .ok (.iastore, 1)) (kk : V K S k n (mW a (up σ 19 i v)) L st (pc + 1)) : V K S k n (mW a σ) L (.int (zI v) :: .int (zI i) :: .ref (a 19) :: st) pc := V_iast (N := 256) 15 rfl hi (by decide) d (by rw [mset_end]; exact kk)
theorem mg_value (hs : S.2.1 = RX11) (d : decode S.1 pc = .ok (.getfield 66, 3)) (kk : V K S k n (mW a σ) L (.ref (a 20) :: st) (pc + 3)) : V K S k n (mW a σ) L (.ref (a 0) :: st) pc := V_getf (C0 := RX11) (T := TX11) (N := 30) (ref := "CellWindowsModel") 0 20 iwX11 (by decide) (by rw [hs]; exact w1090) (Or.inl rfl) rfl rfl rfl d kk
theorem ml_value {i : Int} (hi : 0 ≤ i ∧ i < 256) (d : decode S.1 pc = .ok (.iaload, 1)) (kk : V K S k n (mW a σ) L (.int (zI (σ 20 i)) :: st) (pc + 1)) : V K S k n (mW a σ) L (.int (zI i) :: .ref (a 20) :: st) pc := V_iald (N := 256) 16 rfl hi (by decide) d kk
theorem ms_value {i v : Int} (hi : 0 ≤ i ∧ i < 256) (d : decode S.1 pc = .ok (.iastore, 1)) (kk : V K S k n (mW a (up σ 20 i v)) L st (pc + 1)) : V K S k n (mW a σ) L (.int (zI v) :: .int (zI i) :: .ref (a 20) :: st) pc := V_iast (N := 256) 16 rfl hi (by decide) d (by rw [mset_value]; exact kk)
theorem mg_kept (hs : S.2.1 = RX11) (d : decode S.1 pc = .ok (.getfield 69, 3)) (kk : V K S k n (mW a σ) L (.ref (a 21) :: st) (pc + 3)) : V K S k n (mW a σ) L (.ref (a 0) :: st) pc := V_getf (C0 := RX11) (T := TX11) (N := 30) (ref := "CellWindowsModel") 0 21 iwX11 (by decide) (by rw [hs]; exact w1091) (Or.inl rfl) rfl rfl rfl d kk
theorem ml_kept {i : Int} (hi : 0 ≤ i ∧ i < 2816) (d : decode S.1 pc = .ok (.iaload, 1)) (kk : V K S k n (mW a σ) L (.int (zI (σ 21 i)) :: st) (pc + 1)) : V K S k n (mW a σ) L (.int (zI i) :: .ref (a 21) :: st) pc := V_iald (N := 2816) 17 rfl hi (by decide) d kk
theorem ms_kept {i v : Int} (hi : 0 ≤ i ∧ i < 2816) (d : decode S.1 pc = .ok (.iastore, 1)) (kk : V K S k n (mW a (up σ 21 i v)) L st (pc + 1)) : V K S k n (mW a σ) L (.int (zI v) :: .int (zI i) :: .ref (a 21) :: st) pc := V_iast (N := 2816) 17 rfl hi (by decide) d (by rw [mset_kept]; exact kk)
theorem mg_written (hs : S.2.1 = RX11) (d : decode S.1 pc = .ok (.getfield 72, 3)) (kk : V K S k n (mW a σ) L (.ref (a 22) :: st) (pc + 3)) : V K S k n (mW a σ) L (.ref (a 0) :: st) pc := V_getf (C0 := RX11) (T := TX11) (N := 30) (ref := "CellWindowsModel") 0 22 iwX11 (by decide) (by rw [hs]; exact w1092) (Or.inl rfl) rfl rfl rfl d kk
theorem ml_written {i : Int} (hi : 0 ≤ i ∧ i < 256) (d : decode S.1 pc = .ok (.iaload, 1)) (kk : V K S k n (mW a σ) L (.int (zI (σ 22 i)) :: st) (pc + 1)) : V K S k n (mW a σ) L (.int (zI i) :: .ref (a 22) :: st) pc := V_iald (N := 256) 18 rfl hi (by decide) d kk
theorem ms_written {i v : Int} (hi : 0 ≤ i ∧ i < 256) (d : decode S.1 pc = .ok (.iastore, 1)) (kk : V K S k n (mW a (up σ 22 i v)) L st (pc + 1)) : V K S k n (mW a σ) L (.int (zI v) :: .int (zI i) :: .ref (a 22) :: st) pc := V_iast (N := 256) 18 rfl hi (by decide) d (by rw [mset_written]; exact kk)
theorem mg_change (hs : S.2.1 = RX11) (d : decode S.1 pc = .ok (.getfield 75, 3)) (kk : V K S k n (mW a σ) L (.ref (a 23) :: st) (pc + 3)) : V K S k n (mW a σ) L (.ref (a 0) :: st) pc := V_getf (C0 := RX11) (T := TX11) (N := 30) (ref := "CellWindowsModel") 0 23 iwX11 (by decide) (by rw [hs]; exact w1093) (Or.inl rfl) rfl rfl rfl d kk
theorem ml_change {i : Int} (hi : 0 ≤ i ∧ i < 258) (d : decode S.1 pc = .ok (.iaload, 1)) (kk : V K S k n (mW a σ) L (.int (zI (σ 23 i)) :: st) (pc + 1)) : V K S k n (mW a σ) L (.int (zI i) :: .ref (a 23) :: st) pc := V_iald (N := 258) 19 rfl hi (by decide) d kk
theorem ms_change {i v : Int} (hi : 0 ≤ i ∧ i < 258) (d : decode S.1 pc = .ok (.iastore, 1)) (kk : V K S k n (mW a (up σ 23 i v)) L st (pc + 1)) : V K S k n (mW a σ) L (.int (zI v) :: .int (zI i) :: .ref (a 23) :: st) pc := V_iast (N := 258) 19 rfl hi (by decide) d (by rw [mset_change]; exact kk)
theorem mg_apart (hs : S.2.1 = RX11) (d : decode S.1 pc = .ok (.getfield 78, 3)) (kk : V K S k n (mW a σ) L (.ref (a 24) :: st) (pc + 3)) : V K S k n (mW a σ) L (.ref (a 0) :: st) pc := V_getf (C0 := RX11) (T := TX11) (N := 30) (ref := "CellWindowsModel") 0 24 iwX11 (by decide) (by rw [hs]; exact w1094) (Or.inl rfl) rfl rfl rfl d kk
theorem ml_apart {i : Int} (hi : 0 ≤ i ∧ i < 225) (d : decode S.1 pc = .ok (.baload, 1)) (kk : V K S k n (mW a σ) L (.int (zI (σ 24 i)) :: st) (pc + 1)) : V K S k n (mW a σ) L (.int (zI i) :: .ref (a 24) :: st) pc := V_zald (N := 225) 20 rfl hi (by decide) d kk
theorem ms_apart {i v : Int} (hi : 0 ≤ i ∧ i < 225) (hv : v = 0 ∨ v = 1) (d : decode S.1 pc = .ok (.bastore, 1)) (kk : V K S k n (mW a (up σ 24 i v)) L st (pc + 1)) : V K S k n (mW a σ) L (.int (zI v) :: .int (zI i) :: .ref (a 24) :: st) pc := V_zast (N := 225) 20 rfl hi (by decide) hv d (by rw [mset_apart]; exact kk)
theorem mg_away (hs : S.2.1 = RX11) (d : decode S.1 pc = .ok (.getfield 81, 3)) (kk : V K S k n (mW a σ) L (.ref (a 25) :: st) (pc + 3)) : V K S k n (mW a σ) L (.ref (a 0) :: st) pc := V_getf (C0 := RX11) (T := TX11) (N := 30) (ref := "CellWindowsModel") 0 25 iwX11 (by decide) (by rw [hs]; exact w1095) (Or.inl rfl) rfl rfl rfl d kk
theorem ml_away {i : Int} (hi : 0 ≤ i ∧ i < 64) (d : decode S.1 pc = .ok (.baload, 1)) (kk : V K S k n (mW a σ) L (.int (zI (σ 25 i)) :: st) (pc + 1)) : V K S k n (mW a σ) L (.int (zI i) :: .ref (a 25) :: st) pc := V_zald (N := 64) 21 rfl hi (by decide) d kk
theorem ms_away {i v : Int} (hi : 0 ≤ i ∧ i < 64) (hv : v = 0 ∨ v = 1) (d : decode S.1 pc = .ok (.bastore, 1)) (kk : V K S k n (mW a (up σ 25 i v)) L st (pc + 1)) : V K S k n (mW a σ) L (.int (zI v) :: .int (zI i) :: .ref (a 25) :: st) pc := V_zast (N := 64) 21 rfl hi (by decide) hv d (by rw [mset_away]; exact kk)
theorem mg_best (hs : S.2.1 = RX11) (d : decode S.1 pc = .ok (.getfield 227, 3)) (kk : V K S k n (mW a σ) L (.int (zI (σ 1 26)) :: st) (pc + 3)) : V K S k n (mW a σ) L (.ref (a 0) :: st) pc := V_getf (C0 := RX11) (T := TX11) (N := 30) (ref := "CellWindowsModel") 0 26 iwX11 (by decide) (by rw [hs]; exact w1096) (Or.inl rfl) rfl rfl rfl d kk
theorem mp_best {v : Int} (hs : S.2.1 = RX11) (d : decode S.1 pc = .ok (.putfield 227, 3)) (kk : V K S k n (mW a (up σ 1 26 v)) L st (pc + 3)) : V K S k n (mW a σ) L (.int (zI v) :: .ref (a 0) :: st) pc := V_putf (C0 := RX11) (T := TX11) (N := 30) (ref := "CellWindowsModel") 0 26 iwX11 (by decide) (by rw [hs]; exact w1096) (Or.inl rfl) tyX11 tyX11_ok nmX11 rfl rfl rfl (by show 26 < (mF a σ).length; exact Nat.le_of_ble_eq_true rfl) rfl rfl d (by rw [mset_best]; exact kk)
theorem mg_bestRow (hs : S.2.1 = RX11) (d : decode S.1 pc = .ok (.getfield 230, 3)) (kk : V K S k n (mW a σ) L (.int (zI (σ 1 27)) :: st) (pc + 3)) : V K S k n (mW a σ) L (.ref (a 0) :: st) pc := V_getf (C0 := RX11) (T := TX11) (N := 30) (ref := "CellWindowsModel") 0 27 iwX11 (by decide) (by rw [hs]; exact w1097) (Or.inl rfl) rfl rfl rfl d kk
theorem mp_bestRow {v : Int} (hs : S.2.1 = RX11) (d : decode S.1 pc = .ok (.putfield 230, 3)) (kk : V K S k n (mW a (up σ 1 27 v)) L st (pc + 3)) : V K S k n (mW a σ) L (.int (zI v) :: .ref (a 0) :: st) pc := V_putf (C0 := RX11) (T := TX11) (N := 30) (ref := "CellWindowsModel") 0 27 iwX11 (by decide) (by rw [hs]; exact w1097) (Or.inl rfl) tyX11 tyX11_ok nmX11 rfl rfl rfl (by show 27 < (mF a σ).length; exact Nat.le_of_ble_eq_true rfl) rfl rfl d (by rw [mset_bestRow]; exact kk)
theorem mg_bestColumn (hs : S.2.1 = RX11) (d : decode S.1 pc = .ok (.getfield 233, 3)) (kk : V K S k n (mW a σ) L (.int (zI (σ 1 28)) :: st) (pc + 3)) : V K S k n (mW a σ) L (.ref (a 0) :: st) pc := V_getf (C0 := RX11) (T := TX11) (N := 30) (ref := "CellWindowsModel") 0 28 iwX11 (by decide) (by rw [hs]; exact w1098) (Or.inl rfl) rfl rfl rfl d kk
theorem mp_bestColumn {v : Int} (hs : S.2.1 = RX11) (d : decode S.1 pc = .ok (.putfield 233, 3)) (kk : V K S k n (mW a (up σ 1 28 v)) L st (pc + 3)) : V K S k n (mW a σ) L (.int (zI v) :: .ref (a 0) :: st) pc := V_putf (C0 := RX11) (T := TX11) (N := 30) (ref := "CellWindowsModel") 0 28 iwX11 (by decide) (by rw [hs]; exact w1098) (Or.inl rfl) tyX11 tyX11_ok nmX11 rfl rfl rfl (by show 28 < (mF a σ).length; exact Nat.le_of_ble_eq_true rfl) rfl rfl d (by rw [mset_bestColumn]; exact kk)
theorem mg_thrown (hs : S.2.1 = RX11) (d : decode S.1 pc = .ok (.getfield 84, 3)) (kk : V K S k n (mW a σ) L (.int (zI (σ 1 29)) :: st) (pc + 3)) : V K S k n (mW a σ) L (.ref (a 0) :: st) pc := V_getf (C0 := RX11) (T := TX11) (N := 30) (ref := "CellWindowsModel") 0 29 iwX11 (by decide) (by rw [hs]; exact w1099) (Or.inl rfl) rfl rfl rfl d kk
theorem mp_thrown {v : Int} (hs : S.2.1 = RX11) (d : decode S.1 pc = .ok (.putfield 84, 3)) (kk : V K S k n (mW a (up σ 1 29 v)) L st (pc + 3)) : V K S k n (mW a σ) L (.int (zI v) :: .ref (a 0) :: st) pc := V_putf (C0 := RX11) (T := TX11) (N := 30) (ref := "CellWindowsModel") 0 29 iwX11 (by decide) (by rw [hs]; exact w1099) (Or.inl rfl) tyX11 tyX11_ok nmX11 rfl rfl rfl (by show 29 < (mF a σ).length; exact Nat.le_of_ble_eq_true rfl) rfl rfl d (by rw [mset_thrown]; exact kk)
end MROWS
abbrev sX11_init : SI := (cX11_init, RX11, 1, none, ⟨1, 0, 0, 20⟩)
theorem mokX11_init : MOK yX11_init sX11_init 0 := ⟨w1068, w13, by decide +kernel⟩
abbrev sX11_thrown : SI := (cX11_thrown, RX11, 1, (some (FieldType.int)), ⟨0, 0, 0, 0⟩)
theorem mokX11_thrown : MOK yX11_thrown sX11_thrown 0 := ⟨w1164, w13, by decide +kernel⟩
abbrev sX11_addStatement : SI := (cX11_addStatement, RX11, 2, (some (FieldType.int)), ⟨1, 0, 0, 22⟩)
theorem mokX11_addStatement : MOK yX11_addStatement sX11_addStatement 1 := ⟨w1168, w13, by decide +kernel⟩
abbrev sX11_isIn : SI := (cX11_isIn, RX11, 3, (some (FieldType.boolean)), ⟨0, 0, 0, 0⟩)
theorem mokX11_isIn : MOK yX11_isIn sX11_isIn 3 := ⟨w1171, w13, by decide +kernel⟩
abbrev sX11_fails : SI := (cX11_fails, RX11, 2, (some (FieldType.boolean)), ⟨0, 0, 0, 0⟩)
theorem mokX11_fails : MOK yX11_fails sX11_fails 1 := ⟨w1175, w13, by decide +kernel⟩
abbrev sX11_addRead : SI := (cX11_addRead, RX11, 8, (some (FieldType.int)), ⟨2, 0, 0, 43⟩)
theorem mokX11_addRead : MOK yX11_addRead sX11_addRead 5 := ⟨w1179, w13, by decide +kernel⟩
abbrev sX11_is : SI := (cX11_is, RX11, 2, (some (FieldType.boolean)), ⟨1, 0, 0, 22⟩)
theorem mokX11_is : MOK yX11_is sX11_is 1 := ⟨w1183, w13, by decide +kernel⟩
abbrev sX11_dropReads : SI := (cX11_dropReads, RX11, 3, (some (FieldType.int)), ⟨2, 0, 0, 43⟩)
theorem mokX11_dropReads : MOK yX11_dropReads sX11_dropReads 1 := ⟨w1187, w13, by decide +kernel⟩
abbrev sX11_setLasting : SI := (cX11_setLasting, RX11, 4, (some (FieldType.boolean)), ⟨2, 0, 0, 43⟩)
theorem mokX11_setLasting : MOK yX11_setLasting sX11_setLasting 2 := ⟨w1191, w13, by decide +kernel⟩
abbrev sX11_setField : SI := (cX11_setField, RX11, 3, (some (FieldType.int)), ⟨1, 0, 0, 22⟩)
theorem mokX11_setField : MOK yX11_setField sX11_setField 2 := ⟨w1195, w13, by decide +kernel⟩
abbrev sX11_setSchedule : SI := (cX11_setSchedule, RX11, 3, (some (FieldType.boolean)), ⟨6, 0, 0, 139⟩)
theorem mokX11_setSchedule : MOK yX11_setSchedule sX11_setSchedule 2 := ⟨w1199, w13, by decide +kernel⟩
abbrev sX11_areWeights : SI := (cX11_areWeights, RX11, 2, (some (FieldType.boolean)), ⟨1, 0, 0, 22⟩)
theorem mokX11_areWeights : MOK yX11_areWeights sX11_areWeights 2 := ⟨w1202, w13, by decide +kernel⟩
abbrev sX11_allows : SI := (cX11_allows, RX11, 3, (some (FieldType.boolean)), ⟨5, 0, 0, 117⟩)
theorem mokX11_allows : MOK yX11_allows sX11_allows 2 := ⟨w1206, w13, by decide +kernel⟩
abbrev sX11_deals : SI := (cX11_deals, RX11, 7, none, ⟨2, 0, 0, 44⟩)
theorem mokX11_deals : MOK yX11_deals sX11_deals 2 := ⟨w1210, w13, by decide +kernel⟩
abbrev sX11_all : SI := (cX11_all, RX11, 1, (some (FieldType.int)), ⟨0, 0, 0, 0⟩)
theorem mokX11_all : MOK yX11_all sX11_all 0 := ⟨w1214, w13, by decide +kernel⟩
abbrev sX11_time : SI := (cX11_time, RX11, 4, (some (FieldType.int)), ⟨1, 0, 0, 21⟩)
theorem mokX11_time : MOK yX11_time sX11_time 3 := ⟨w1218, w13, by decide +kernel⟩
abbrev sX11_row : SI := (cX11_row, RX11, 2, (some (FieldType.int)), ⟨0, 0, 0, 0⟩)
theorem mokX11_row : MOK yX11_row sX11_row 1 := ⟨w1222, w13, by decide +kernel⟩
abbrev sX11_column : SI := (cX11_column, RX11, 2, (some (FieldType.int)), ⟨0, 0, 0, 0⟩)
theorem mokX11_column : MOK yX11_column sX11_column 1 := ⟨w1226, w13, by decide +kernel⟩
abbrev sX11_areInOrder : SI := (cX11_areInOrder, RX11, 4, (some (FieldType.boolean)), ⟨4, 0, 0, 94⟩)
theorem mokX11_areInOrder : MOK yX11_areInOrder sX11_areInOrder 0 := ⟨w1230, w13, by decide +kernel⟩
abbrev sX11_isInOrder : SI := (cX11_isInOrder, RX11, 7, (some (FieldType.boolean)), ⟨3, 0, 0, 68⟩)
theorem mokX11_isInOrder : MOK yX11_isInOrder sX11_isInOrder 2 := ⟨w1234, w13, by decide +kernel⟩
abbrev sX11_wanted : SI := (cX11_wanted, RX11, 5, (some (FieldType.int)), ⟨2, 0, 0, 44⟩)
theorem mokX11_wanted : MOK yX11_wanted sX11_wanted 2 := ⟨w1238, w13, by decide +kernel⟩
abbrev sX11_isPoint : SI := (cX11_isPoint, RX11, 3, (some (FieldType.boolean)), ⟨1, 0, 0, 22⟩)
theorem mokX11_isPoint : MOK yX11_isPoint sX11_isPoint 2 := ⟨w1242, w13, by decide +kernel⟩
abbrev sX11_cell : SI := (cX11_cell, RX11, 4, (some (FieldType.int)), ⟨0, 0, 0, 0⟩)
theorem mokX11_cell : MOK yX11_cell sX11_cell 3 := ⟨w1246, w13, by decide +kernel⟩
abbrev sX11_setOffset : SI := (cX11_setOffset, RX11, 3, (some (FieldType.boolean)), ⟨6, 0, 0, 139⟩)
theorem mokX11_setOffset : MOK yX11_setOffset sX11_setOffset 2 := ⟨w1250, w13, by decide +kernel⟩
abbrev sX11_isAllowed : SI := (cX11_isAllowed, RX11, 1, (some (FieldType.boolean)), ⟨6, 0, 0, 139⟩)
theorem mokX11_isAllowed : MOK yX11_isAllowed sX11_isAllowed 0 := ⟨w1254, w13, by decide +kernel⟩
abbrev sX11_isAllowedWith : SI := (cX11_isAllowedWith, RX11, 3, (some (FieldType.boolean)), ⟨6, 0, 0, 139⟩)
theorem mokX11_isAllowedWith : MOK yX11_isAllowedWith sX11_isAllowedWith 2 := ⟨w1258, w13, by decide +kernel⟩
abbrev sX11_isReadInOrder : SI := (cX11_isReadInOrder, RX11, 3, (some (FieldType.boolean)), ⟨4, 0, 0, 94⟩)
theorem mokX11_isReadInOrder : MOK yX11_isReadInOrder sX11_isReadInOrder 2 := ⟨w1262, w13, by decide +kernel⟩
abbrev sX11_orders : SI := (cX11_orders, RX11, 1, none, ⟨3, 0, 0, 70⟩)
theorem mokX11_orders : MOK yX11_orders sX11_orders 0 := ⟨w1266, w13, by decide +kernel⟩
abbrev sX11_steps : SI := (cX11_steps, RX11, 1, (some (FieldType.int)), ⟨1, 0, 0, 20⟩)
theorem mokX11_steps : MOK yX11_steps sX11_steps 0 := ⟨w1270, w13, by decide +kernel⟩
abbrev sX11_stepOf : SI := (cX11_stepOf, RX11, 4, (some (FieldType.int)), ⟨4, 0, 0, 90⟩)
theorem mokX11_stepOf : MOK yX11_stepOf sX11_stepOf 3 := ⟨w1274, w13, by decide +kernel⟩
abbrev sX11_isCell : SI := (cX11_isCell, RX11, 4, (some (FieldType.boolean)), ⟨2, 0, 0, 44⟩)
theorem mokX11_isCell : MOK yX11_isCell sX11_isCell 3 := ⟨w1278, w13, by decide +kernel⟩
abbrev sX11_statementAt : SI := (cX11_statementAt, RX11, 2, (some (FieldType.int)), ⟨4, 0, 0, 90⟩)
theorem mokX11_statementAt : MOK yX11_statementAt sX11_statementAt 1 := ⟨w1282, w13, by decide +kernel⟩
abbrev sX11_isStep : SI := (cX11_isStep, RX11, 2, (some (FieldType.boolean)), ⟨1, 0, 0, 22⟩)
theorem mokX11_isStep : MOK yX11_isStep sX11_isStep 1 := ⟨w1286, w13, by decide +kernel⟩
abbrev sX11_pointAt : SI := (cX11_pointAt, RX11, 2, (some (FieldType.int)), ⟨4, 0, 0, 90⟩)
theorem mokX11_pointAt : MOK yX11_pointAt sX11_pointAt 1 := ⟨w1290, w13, by decide +kernel⟩
abbrev sX11_endOf : SI := (cX11_endOf, RX11, 4, (some (FieldType.int)), ⟨5, 0, 0, 112⟩)
theorem mokX11_endOf : MOK yX11_endOf sX11_endOf 3 := ⟨w1294, w13, by decide +kernel⟩
abbrev sX11_finds : SI := (cX11_finds, RX11, 1, none, ⟨4, 0, 0, 92⟩)
theorem mokX11_finds : MOK yX11_finds sX11_finds 0 := ⟨w1298, w13, by decide +kernel⟩
abbrev sX11_lives : SI := (cX11_lives, RX11, 5, none, ⟨3, 0, 0, 68⟩)
theorem mokX11_lives : MOK yX11_lives sX11_lives 0 := ⟨w1302, w13, by decide +kernel⟩
abbrev sX11_liveAt : SI := (cX11_liveAt, RX11, 2, (some (FieldType.int)), ⟨6, 0, 0, 137⟩)
theorem mokX11_liveAt : MOK yX11_liveAt sX11_liveAt 1 := ⟨w1306, w13, by decide +kernel⟩
abbrev sX11_most : SI := (cX11_most, RX11, 6, (some (FieldType.int)), ⟨5, 0, 0, 112⟩)
theorem mokX11_most : MOK yX11_most sX11_most 2 := ⟨w1310, w13, by decide +kernel⟩
abbrev sX11_mostLive : SI := (cX11_mostLive, RX11, 1, (some (FieldType.int)), ⟨6, 0, 0, 137⟩)
theorem mokX11_mostLive : MOK yX11_mostLive sX11_mostLive 0 := ⟨w1314, w13, by decide +kernel⟩
abbrev sX11_mostLiveOf : SI := (cX11_mostLiveOf, RX11, 2, (some (FieldType.int)), ⟨6, 0, 0, 137⟩)
theorem mokX11_mostLiveOf : MOK yX11_mostLiveOf sX11_mostLiveOf 1 := ⟨w1318, w13, by decide +kernel⟩
abbrev sX11_conflictsOf : SI := (cX11_conflictsOf, RX11, 5, (some (FieldType.int)), ⟨5, 0, 0, 112⟩)
theorem mokX11_conflictsOf : MOK yX11_conflictsOf sX11_conflictsOf 4 := ⟨w1322, w13, by decide +kernel⟩
abbrev sX11_conflicts : SI := (cX11_conflicts, RX11, 5, (some (FieldType.int)), ⟨1, 0, 0, 22⟩)
theorem mokX11_conflicts : MOK yX11_conflicts sX11_conflicts 2 := ⟨w1326, w13, by decide +kernel⟩
abbrev sX11_areInConflict : SI := (cX11_areInConflict, RX11, 3, (some (FieldType.boolean)), ⟨0, 0, 0, 0⟩)
theorem mokX11_areInConflict : MOK yX11_areInConflict sX11_areInConflict 2 := ⟨w1330, w13, by decide +kernel⟩
abbrev sX11_conflictPairs : SI := (cX11_conflictPairs, RX11, 4, (some (FieldType.int)), ⟨5, 0, 0, 112⟩)
theorem mokX11_conflictPairs : MOK yX11_conflictPairs sX11_conflictPairs 1 := ⟨w1334, w13, by decide +kernel⟩
abbrev sX11_keepWhole : SI := (cX11_keepWhole, RX11, 2, (some (FieldType.int)), ⟨2, 0, 0, 45⟩)
theorem mokX11_keepWhole : MOK yX11_keepWhole sX11_keepWhole 1 := ⟨w1338, w13, by decide +kernel⟩
abbrev sX11_gives : SI := (cX11_gives, RX11, 5, (some (FieldType.int)), ⟨1, 0, 0, 21⟩)
theorem mokX11_gives : MOK yX11_gives sX11_gives 4 := ⟨w1342, w13, by decide +kernel⟩
abbrev sX11_size : SI := (cX11_size, RX11, 2, (some (FieldType.int)), ⟨0, 0, 0, 0⟩)
theorem mokX11_size : MOK yX11_size sX11_size 1 := ⟨w1346, w13, by decide +kernel⟩
abbrev sX11_keepRest : SI := (cX11_keepRest, RX11, 3, (some (FieldType.int)), ⟨2, 0, 0, 45⟩)
theorem mokX11_keepRest : MOK yX11_keepRest sX11_keepRest 2 := ⟨w1350, w13, by decide +kernel⟩
abbrev sX11_isModulus : SI := (cX11_isModulus, RX11, 1, (some (FieldType.boolean)), ⟨1, 0, 0, 22⟩)
theorem mokX11_isModulus : MOK yX11_isModulus sX11_isModulus 1 := ⟨w1353, w13, by decide +kernel⟩
abbrev sX11_keepTwoRests : SI := (cX11_keepTwoRests, RX11, 4, (some (FieldType.int)), ⟨2, 0, 0, 45⟩)
theorem mokX11_keepTwoRests : MOK yX11_keepTwoRests sX11_keepTwoRests 3 := ⟨w1357, w13, by decide +kernel⟩
abbrev sX11_keepSlant : SI := (cX11_keepSlant, RX11, 4, (some (FieldType.int)), ⟨2, 0, 0, 45⟩)
theorem mokX11_keepSlant : MOK yX11_keepSlant sX11_keepSlant 3 := ⟨w1361, w13, by decide +kernel⟩
abbrev sX11_contract : SI := (cX11_contract, RX11, 5, (some (FieldType.int)), ⟨5, 0, 0, 112⟩)
theorem mokX11_contract : MOK yX11_contract sX11_contract 0 := ⟨w1365, w13, by decide +kernel⟩
abbrev sX11_differs : SI := (cX11_differs, RX11, 4, none, ⟨1, 0, 0, 22⟩)
theorem mokX11_differs : MOK yX11_differs sX11_differs 1 := ⟨w1369, w13, by decide +kernel⟩
abbrev sX11_rest : SI := (cX11_rest, RX11, 2, (some (FieldType.int)), ⟨1, 0, 0, 24⟩)
theorem mokX11_rest : MOK yX11_rest sX11_rest 0 := ⟨w1373, w13, by decide +kernel⟩
abbrev sX11_isRest : SI := (cX11_isRest, RX11, 5, (some (FieldType.boolean)), ⟨0, 0, 0, 0⟩)
theorem mokX11_isRest : MOK yX11_isRest sX11_isRest 1 := ⟨w1377, w13, by decide +kernel⟩
abbrev sX11_two : SI := (cX11_two, RX11, 5, (some (FieldType.int)), ⟨1, 0, 0, 24⟩)
theorem mokX11_two : MOK yX11_two sX11_two 0 := ⟨w1381, w13, by decide +kernel⟩
abbrev sX11_isTwo : SI := (cX11_isTwo, RX11, 5, (some (FieldType.boolean)), ⟨0, 0, 0, 0⟩)
theorem mokX11_isTwo : MOK yX11_isTwo sX11_isTwo 2 := ⟨w1385, w13, by decide +kernel⟩
abbrev sX11_slant : SI := (cX11_slant, RX11, 2, (some (FieldType.int)), ⟨1, 0, 0, 25⟩)
theorem mokX11_slant : MOK yX11_slant sX11_slant 0 := ⟨w1389, w13, by decide +kernel⟩
abbrev sX11_isSlant : SI := (cX11_isSlant, RX11, 6, (some (FieldType.boolean)), ⟨0, 0, 0, 0⟩)
theorem mokX11_isSlant : MOK yX11_isSlant sX11_isSlant 2 := ⟨w1393, w13, by decide +kernel⟩
abbrev sX11_rooms : SI := (cX11_rooms, RX11, 3, (some (FieldType.int)), ⟨1, 0, 0, 21⟩)
theorem mokX11_rooms : MOK yX11_rooms sX11_rooms 0 := ⟨w1397, w13, by decide +kernel⟩
abbrev sX11_windowSize : SI := (cX11_windowSize, RX11, 2, (some (FieldType.int)), ⟨2, 0, 0, 43⟩)
theorem mokX11_windowSize : MOK yX11_windowSize sX11_windowSize 1 := ⟨w1401, w13, by decide +kernel⟩
abbrev sX11_room : SI := (cX11_room, RX11, 1, (some (FieldType.int)), ⟨2, 0, 0, 43⟩)
theorem mokX11_room : MOK yX11_room sX11_room 0 := ⟨w1405, w13, by decide +kernel⟩
abbrev sX11_placeOf : SI := (cX11_placeOf, RX11, 4, (some (FieldType.int)), ⟨3, 0, 0, 67⟩)
theorem mokX11_placeOf : MOK yX11_placeOf sX11_placeOf 3 := ⟨w1409, w13, by decide +kernel⟩
abbrev sX11_place : SI := (cX11_place, RX11, 5, (some (FieldType.int)), ⟨1, 0, 0, 21⟩)
theorem mokX11_place : MOK yX11_place sX11_place 1 := ⟨w1413, w13, by decide +kernel⟩
abbrev sX11_isRight : SI := (cX11_isRight, RX11, 5, (some (FieldType.boolean)), ⟨5, 0, 0, 112⟩)
theorem mokX11_isRight : MOK yX11_isRight sX11_isRight 1 := ⟨w1417, w13, by decide +kernel⟩
abbrev sX11_leastRest : SI := (cX11_leastRest, RX11, 2, (some (FieldType.int)), ⟨6, 0, 0, 133⟩)
theorem mokX11_leastRest : MOK yX11_leastRest sX11_leastRest 1 := ⟨w1421, w13, by decide +kernel⟩
abbrev sX11_seeks : SI := (cX11_seeks, RX11, 2, none, ⟨5, 0, 0, 112⟩)
theorem mokX11_seeks : MOK yX11_seeks sX11_seeks 1 := ⟨w1425, w13, by decide +kernel⟩
abbrev sX11_leastRestByDifferences : SI := (cX11_leastRestByDifferences, RX11, 2, (some (FieldType.int)), ⟨7, 0, 0, 154⟩)
theorem mokX11_leastRestByDifferences : MOK yX11_leastRestByDifferences sX11_leastRestByDifferences 1 := ⟨w1429, w13, by decide +kernel⟩
abbrev sX11_leastRowRest : SI := (cX11_leastRowRest, RX11, 2, (some (FieldType.int)), ⟨6, 0, 0, 133⟩)
theorem mokX11_leastRowRest : MOK yX11_leastRowRest sX11_leastRowRest 1 := ⟨w1434, w13, by decide +kernel⟩
abbrev sX11_leastColumnRest : SI := (cX11_leastColumnRest, RX11, 2, (some (FieldType.int)), ⟨6, 0, 0, 133⟩)
theorem mokX11_leastColumnRest : MOK yX11_leastColumnRest sX11_leastColumnRest 1 := ⟨w1438, w13, by decide +kernel⟩
abbrev sX11_leastSlantModulus : SI := (cX11_leastSlantModulus, RX11, 2, (some (FieldType.int)), ⟨6, 0, 0, 133⟩)
theorem mokX11_leastSlantModulus : MOK yX11_leastSlantModulus sX11_leastSlantModulus 1 := ⟨w1442, w13, by decide +kernel⟩
abbrev sX11_leastSlant : SI := (cX11_leastSlant, RX11, 2, (some (FieldType.int)), ⟨6, 0, 0, 133⟩)
theorem mokX11_leastSlant : MOK yX11_leastSlant sX11_leastSlant 1 := ⟨w1446, w13, by decide +kernel⟩
abbrev sX11_leastJointRest : SI := (cX11_leastJointRest, RX11, 4, (some (FieldType.int)), ⟨5, 0, 0, 112⟩)
theorem mokX11_leastJointRest : MOK yX11_leastJointRest sX11_leastJointRest 2 := ⟨w1450, w13, by decide +kernel⟩
abbrev sX11_distances : SI := (cX11_distances, RX11, 6, none, ⟨1, 0, 0, 22⟩)
theorem mokX11_distances : MOK yX11_distances sX11_distances 2 := ⟨w1454, w13, by decide +kernel⟩
abbrev sX11_divides : SI := (cX11_divides, RX11, 4, (some (FieldType.boolean)), ⟨0, 0, 0, 0⟩)
theorem mokX11_divides : MOK yX11_divides sX11_divides 1 := ⟨w1458, w13, by decide +kernel⟩
abbrev sX11_valueOf : SI := (cX11_valueOf, RX11, 4, (some (FieldType.int)), ⟨5, 0, 0, 119⟩)
theorem mokX11_valueOf : MOK yX11_valueOf sX11_valueOf 3 := ⟨w1462, w13, by decide +kernel⟩
abbrev sX11_works : SI := (cX11_works, RX11, 10, (some (FieldType.int)), ⟨4, 0, 0, 90⟩)
theorem mokX11_works : MOK yX11_works sX11_works 0 := ⟨w1466, w13, by decide +kernel⟩
abbrev sX11_border : SI := (cX11_border, RX11, 4, (some (FieldType.int)), ⟨0, 0, 0, 0⟩)
theorem mokX11_border : MOK yX11_border sX11_border 3 := ⟨w1469, w13, by decide +kernel⟩
abbrev sX11_contractedValueOf : SI := (cX11_contractedValueOf, RX11, 4, (some (FieldType.int)), ⟨5, 0, 0, 119⟩)
theorem mokX11_contractedValueOf : MOK yX11_contractedValueOf sX11_contractedValueOf 3 := ⟨w1473, w13, by decide +kernel⟩
abbrev sX11_firstWrongStep : SI := (cX11_firstWrongStep, RX11, 1, (some (FieldType.int)), ⟨5, 0, 0, 119⟩)
theorem mokX11_firstWrongStep : MOK yX11_firstWrongStep sX11_firstWrongStep 0 := ⟨w1477, w13, by decide +kernel⟩
abbrev sX11_bestRowWeight : SI := (cX11_bestRowWeight, RX11, 1, (some (FieldType.int)), ⟨7, 0, 0, 162⟩)
theorem mokX11_bestRowWeight : MOK yX11_bestRowWeight sX11_bestRowWeight 0 := ⟨w1481, w13, by decide +kernel⟩
abbrev sX11_hasBest : SI := (cX11_hasBest, RX11, 4, (some (FieldType.boolean)), ⟨6, 0, 0, 139⟩)
theorem mokX11_hasBest : MOK yX11_hasBest sX11_hasBest 0 := ⟨w1485, w13, by decide +kernel⟩
abbrev sX11_bestColumnWeight : SI := (cX11_bestColumnWeight, RX11, 1, (some (FieldType.int)), ⟨7, 0, 0, 162⟩)
theorem mokX11_bestColumnWeight : MOK yX11_bestColumnWeight sX11_bestColumnWeight 0 := ⟨w1489, w13, by decide +kernel⟩
abbrev sX11_bestRoom : SI := (cX11_bestRoom, RX11, 1, (some (FieldType.int)), ⟨7, 0, 0, 162⟩)
theorem mokX11_bestRoom : MOK yX11_bestRoom sX11_bestRoom 0 := ⟨w1493, w13, by decide +kernel⟩

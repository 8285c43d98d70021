set_option maxRecDepth 100000 in
set_option maxHeartbeats 4000000 in
theorem c_thrown {E : EV} (hE : Stb E) (a : Nat → Nat) (σ : St) : MC E yX11_thrown sX11_thrown [.ref (a 0)] (mW a σ) (fun v w => v = some (.int (zI (σ 1 29))) ∧ w = mW a σ) := by
  refine MC.of hE [some (.ref (a 0))] 0 rfl rfl rfl (by simp [Value.category]) (Nat.le_of_ble_eq_true rfl) (fun K hK hR => ?_)
  refine V_aload_n dX11_thrown_0 rfl ?_
  refine mg_thrown rfl dX11_thrown_1 ?_
  refine V_iret hR rfl (Nat.le_refl _) (Nat.le_refl _) dX11_thrown_4 ?_
  exact ⟨rfl, rfl⟩
set_option maxRecDepth 100000 in
set_option maxHeartbeats 4000000 in
theorem c_fails {E : EV} (hE : Stb E) (a : Nat → Nat) (σ : St) (which : Int) (hp : iR which) : MC E yX11_fails sX11_fails [.ref (a 0), .int (zI which)] (mW a σ) (fun v w => v = some (.int (zI (bz (decide (0 < which))))) ∧ w = mW a (up σ 1 29 which)) := by
  refine MC.of hE [some (.ref (a 0)), some (.int (zI which))] 0 rfl rfl rfl (by simp [Value.category]) (Nat.le_of_ble_eq_true rfl) (fun K hK hR => ?_)
  obtain ⟨hp1, hp2⟩ := hp
  refine V_aload_n dX11_fails_0 rfl ?_
  refine V_iload_n dX11_fails_1 rfl ?_
  refine mp_thrown rfl dX11_fails_2 ?_
  refine V_iload_n dX11_fails_5 rfl ?_
  refine V_if_le (tgt := 13) dX11_fails_6 (by decide) ⟨by omega, by omega⟩ (fun c_1 => ?_) (fun c_1 => ?_)
  · refine V_iconst dX11_fails_13 ?_
    show V K sX11_fails 0 0 (mW a (up σ 1 29 which)) _ [.int (zI (bz false))] 14
    refine V_zret hR rfl (Nat.le_refl _) (Nat.le_refl _) dX11_fails_14 ?_
    exact ⟨bzF (by omega), rfl⟩
  · refine V_iconst dX11_fails_9 ?_
    refine V_goto (tgt := 14) dX11_fails_10 (by decide) ?_
    show V K sX11_fails 0 0 (mW a (up σ 1 29 which)) _ [.int (zI (bz true))] 14
    refine V_zret hR rfl (Nat.le_refl _) (Nat.le_refl _) dX11_fails_14 ?_
    exact ⟨bzT (by omega), rfl⟩
set_option maxRecDepth 100000 in
set_option maxHeartbeats 4000000 in
theorem c_isIn {E : EV} (hE : Stb E) (v0 : Int) (lo : Int) (hi : Int) (hp : iR v0 ∧ iR lo ∧ iR hi) : MC E yX11_isIn sX11_isIn [.int (zI v0), .int (zI lo), .int (zI hi)] [] (fun v w => v = some (.int (zI (bz (decide (lo ≤ v0 ∧ v0 ≤ hi))))) ∧ w = []) := by
  refine MC.of hE [some (.int (zI v0)), some (.int (zI lo)), some (.int (zI hi))] 0 rfl rfl rfl (by simp [Value.category]) (Nat.le_of_ble_eq_true rfl) (fun K hK hR => ?_)
  obtain ⟨⟨h1, h2⟩, ⟨h3, h4⟩, ⟨h5, h6⟩⟩ := hp
  refine V_iload_n dX11_isIn_0 rfl ?_
  refine V_iload_n dX11_isIn_1 rfl ?_
  refine V_icmp_lt (tgt := 14) dX11_isIn_2 (by decide) ⟨⟨by omega, by omega⟩, ⟨by omega, by omega⟩⟩ (fun c_1 => ?_) (fun c_1 => ?_)
  · refine V_iconst dX11_isIn_14 ?_
    show V K sX11_isIn 0 0 [] _ [.int (zI (bz false))] 15
    refine V_zret hR rfl (Nat.le_refl _) (Nat.le_refl _) dX11_isIn_15 ?_
    exact ⟨bzF (by omega), rfl⟩
  · refine V_iload_n dX11_isIn_5 rfl ?_
    refine V_iload_n dX11_isIn_6 rfl ?_
    refine V_icmp_gt (tgt := 14) dX11_isIn_7 (by decide) ⟨⟨by omega, by omega⟩, ⟨by omega, by omega⟩⟩ (fun c_2 => ?_) (fun c_2 => ?_)
    · refine V_iconst dX11_isIn_14 ?_
      show V K sX11_isIn 0 0 [] _ [.int (zI (bz false))] 15
      refine V_zret hR rfl (Nat.le_refl _) (Nat.le_refl _) dX11_isIn_15 ?_
      exact ⟨bzF (by omega), rfl⟩
    · refine V_iconst dX11_isIn_10 ?_
      refine V_goto (tgt := 15) dX11_isIn_11 (by decide) ?_
      show V K sX11_isIn 0 0 [] _ [.int (zI (bz true))] 15
      refine V_zret hR rfl (Nat.le_refl _) (Nat.le_refl _) dX11_isIn_15 ?_
      exact ⟨bzT (by omega), rfl⟩
set_option maxRecDepth 100000 in
set_option maxHeartbeats 4000000 in
theorem c_is {E : EV} (hE : Stb E) (a : Nat → Nat) (σ : St) (s0 : Int) (P : St) (hp : MI P ∧ PR P σ ∧ iR s0) : MC E yX11_is sX11_is [.ref (a 0), .int (zI s0)] (mW a σ) (fun v w => v = some (.int (zI (bz (decide (0 ≤ s0 ∧ s0 < P 0 2))))) ∧ w = mW a σ) := by
  refine MC.of hE [some (.ref (a 0)), some (.int (zI s0))] 0 rfl rfl rfl (by simp [Value.category]) (Nat.le_of_ble_eq_true rfl) (fun K hK hR => ?_)
  obtain ⟨hM, hP, hp⟩ := hp
  have e0 := hP 0 (by decide) (by decide)
  have f0 : ∀ i, σ 0 i = P 0 i := fun i => by rw [e0]
  have mR := hM.1
  have mC := hM.2.1
  have mN := hM.2.2.1
  have mp := hM.pts
  have ma := hM.als
  have gR := f0 0
  have gC := f0 1
  have gN := f0 2
  obtain ⟨h1, h2⟩ := hp
  refine V_iload_n dX11_is_0 rfl ?_
  refine V_iconst dX11_is_1 ?_
  refine V_aload_n dX11_is_2 rfl ?_
  refine mg_statements rfl dX11_is_3 ?_
  refine V_iconst dX11_is_6 ?_
  refine V_isub dX11_is_7 ?_
  refine V_callSE (As := [.int (zI s0), .int (zI 0), .int (zI ((σ 0 2) - 1))]) hK (c_isIn hE s0 0 ((σ 0 2) - 1) (by refine ⟨?_, ?_, ?_⟩ <;> (try refine ⟨?_, ?_⟩) <;> omega)) mokX11_isIn w1169 w1170 ⟨Nat.le_of_ble_eq_true rfl, Nat.le_of_ble_eq_true rfl⟩ rfl (by decide) ⟨Nat.le_refl _, Nat.le_refl _⟩ dX11_is_8 (fun v w p_1 => ?_)
  obtain ⟨rfl, rfl⟩ := p_1
  show V K sX11_is 0 0 (mW a σ) _ [.int (zI (bz (decide (0 ≤ s0 ∧ s0 ≤ ((σ 0 2) - 1)))))] 11
  refine V_zret hR rfl (Nat.le_refl _) (Nat.le_refl _) dX11_is_11 ?_
  exact ⟨bzD (by omega), rfl⟩
set_option maxRecDepth 100000 in
set_option maxHeartbeats 4000000 in
theorem c_isPoint {E : EV} (hE : Stb E) (a : Nat → Nat) (σ : St) (i : Int) (j : Int) (P : St) (hp : MI P ∧ PR P σ ∧ iR i ∧ iR j) : MC E yX11_isPoint sX11_isPoint [.ref (a 0), .int (zI i), .int (zI j)] (mW a σ) (fun v w => v = some (.int (zI (bz (decide (0 ≤ i ∧ i < P 0 0 ∧ 0 ≤ j ∧ j < P 0 1))))) ∧ w = mW a σ) := by
  refine MC.of hE [some (.ref (a 0)), some (.int (zI i)), some (.int (zI j))] 0 rfl rfl rfl (by simp [Value.category]) (Nat.le_of_ble_eq_true rfl) (fun K hK hR => ?_)
  obtain ⟨hM, hP, hp⟩ := hp
  have e0 := hP 0 (by decide) (by decide)
  have f0 : ∀ i, σ 0 i = P 0 i := fun i => by rw [e0]
  have mR := hM.1
  have mC := hM.2.1
  have mN := hM.2.2.1
  have mp := hM.pts
  have ma := hM.als
  have gR := f0 0
  have gC := f0 1
  have gN := f0 2
  obtain ⟨⟨h1, h2⟩, h3, h4⟩ := hp
  refine V_iload_n dX11_isPoint_0 rfl ?_
  refine V_iconst dX11_isPoint_1 ?_
  refine V_aload_n dX11_isPoint_2 rfl ?_
  refine mg_rows rfl dX11_isPoint_3 ?_
  refine V_iconst dX11_isPoint_6 ?_
  refine V_isub dX11_isPoint_7 ?_
  refine V_callSE (As := [.int (zI i), .int (zI 0), .int (zI ((σ 0 0) - 1))]) hK (c_isIn hE i 0 ((σ 0 0) - 1) (by refine ⟨?_, ?_, ?_⟩ <;> (try refine ⟨?_, ?_⟩) <;> omega)) mokX11_isIn w1169 w1170 ⟨Nat.le_of_ble_eq_true rfl, Nat.le_of_ble_eq_true rfl⟩ rfl (by decide) ⟨Nat.le_refl _, Nat.le_refl _⟩ dX11_isPoint_8 (fun v w p_1 => ?_)
  obtain ⟨rfl, rfl⟩ := p_1
  show V K sX11_isPoint 0 0 (mW a σ) _ [.int (zI (bz (decide (0 ≤ i ∧ i ≤ ((σ 0 0) - 1)))))] 11
  refine V_ifd_eq (tgt := 32) dX11_isPoint_11 (by decide) (fun c_2 => ?_) (fun c_2 => ?_)
  · refine V_iconst dX11_isPoint_32 ?_
    show V K sX11_isPoint 0 0 (mW a σ) _ [.int (zI (bz false))] 33
    refine V_zret hR rfl (Nat.le_refl _) (Nat.le_refl _) dX11_isPoint_33 ?_
    exact ⟨bzF (by omega), rfl⟩
  · refine V_iload_n dX11_isPoint_14 rfl ?_
    refine V_iconst dX11_isPoint_15 ?_
    refine V_aload_n dX11_isPoint_16 rfl ?_
    refine mg_columns rfl dX11_isPoint_17 ?_
    refine V_iconst dX11_isPoint_20 ?_
    refine V_isub dX11_isPoint_21 ?_
    refine V_callSE (As := [.int (zI j), .int (zI 0), .int (zI ((σ 0 1) - 1))]) hK (c_isIn hE j 0 ((σ 0 1) - 1) (by refine ⟨?_, ?_, ?_⟩ <;> (try refine ⟨?_, ?_⟩) <;> omega)) mokX11_isIn w1169 w1170 ⟨Nat.le_of_ble_eq_true rfl, Nat.le_of_ble_eq_true rfl⟩ rfl (by decide) ⟨Nat.le_refl _, Nat.le_refl _⟩ dX11_isPoint_22 (fun v w p_3 => ?_)
    obtain ⟨rfl, rfl⟩ := p_3
    show V K sX11_isPoint 0 0 (mW a σ) _ [.int (zI (bz (decide (0 ≤ j ∧ j ≤ ((σ 0 1) - 1)))))] 25
    refine V_ifd_eq (tgt := 32) dX11_isPoint_25 (by decide) (fun c_4 => ?_) (fun c_4 => ?_)
    · refine V_iconst dX11_isPoint_32 ?_
      show V K sX11_isPoint 0 0 (mW a σ) _ [.int (zI (bz false))] 33
      refine V_zret hR rfl (Nat.le_refl _) (Nat.le_refl _) dX11_isPoint_33 ?_
      exact ⟨bzF (by omega), rfl⟩
    · refine V_iconst dX11_isPoint_28 ?_
      refine V_goto (tgt := 33) dX11_isPoint_29 (by decide) ?_
      show V K sX11_isPoint 0 0 (mW a σ) _ [.int (zI (bz true))] 33
      refine V_zret hR rfl (Nat.le_refl _) (Nat.le_refl _) dX11_isPoint_33 ?_
      exact ⟨bzT (by omega), rfl⟩
set_option maxRecDepth 100000 in
set_option maxHeartbeats 4000000 in
theorem c_isCell {E : EV} (hE : Stb E) (a : Nat → Nat) (σ : St) (s0 : Int) (i : Int) (j : Int) (P : St) (hp : MI P ∧ PR P σ ∧ iR s0 ∧ iR i ∧ iR j) : MC E yX11_isCell sX11_isCell [.ref (a 0), .int (zI s0), .int (zI i), .int (zI j)] (mW a σ) (fun v w => v = some (.int (zI (bz (decide ((0 ≤ s0 ∧ s0 < P 0 2) ∧ 0 ≤ i ∧ i < P 0 0 ∧ 0 ≤ j ∧ j < P 0 1))))) ∧ w = mW a σ) := by
  refine MC.of hE [some (.ref (a 0)), some (.int (zI s0)), some (.int (zI i)), some (.int (zI j))] 0 rfl rfl rfl (by simp [Value.category]) (Nat.le_of_ble_eq_true rfl) (fun K hK hR => ?_)
  obtain ⟨hM, hP, hp⟩ := hp
  have e0 := hP 0 (by decide) (by decide)
  have f0 : ∀ i, σ 0 i = P 0 i := fun i => by rw [e0]
  have mR := hM.1
  have mC := hM.2.1
  have mN := hM.2.2.1
  have mp := hM.pts
  have ma := hM.als
  have gR := f0 0
  have gC := f0 1
  have gN := f0 2
  obtain ⟨⟨h1, h2⟩, ⟨h3, h4⟩, h5, h6⟩ := hp
  refine V_aload_n dX11_isCell_0 rfl ?_
  refine V_iload_n dX11_isCell_1 rfl ?_
  refine V_callVF (As := [.int (zI s0)]) (b := a 0) (hb := (show (mW a σ)[0]? = some (a 0, .inr (10, mF a σ)) from rfl)) (hc := (show vwCl[10]? = some (RX11, TX11, 30) from rfl)) hK (c_is hE a σ s0 P ⟨hM, hP, by (try refine ⟨?_, ?_⟩) <;> omega⟩) mokX11_is w1180 w1182 wps1_10 ⟨Nat.le_of_ble_eq_true rfl, Nat.le_of_ble_eq_true rfl⟩ rfl (by decide) ⟨Nat.le_refl _, Nat.le_refl _⟩ dX11_isCell_2 (fun v w p_1 => ?_)
  obtain ⟨rfl, rfl⟩ := p_1
  show V K sX11_isCell 0 0 (mW a σ) _ [.int (zI (bz (decide (0 ≤ s0 ∧ s0 < P 0 2))))] 5
  refine V_ifd_eq (tgt := 21) dX11_isCell_5 (by decide) (fun c_2 => ?_) (fun c_2 => ?_)
  · refine V_iconst dX11_isCell_21 ?_
    show V K sX11_isCell 0 0 (mW a σ) _ [.int (zI (bz false))] 22
    refine V_zret hR rfl (Nat.le_refl _) (Nat.le_refl _) dX11_isCell_22 ?_
    exact ⟨bzF (by omega), rfl⟩
  · refine V_aload_n dX11_isCell_8 rfl ?_
    refine V_iload_n dX11_isCell_9 rfl ?_
    refine V_iload_n dX11_isCell_10 rfl ?_
    refine V_callVF (As := [.int (zI i), .int (zI j)]) (b := a 0) (hb := (show (mW a σ)[0]? = some (a 0, .inr (10, mF a σ)) from rfl)) (hc := (show vwCl[10]? = some (RX11, TX11, 30) from rfl)) hK (c_isPoint hE a σ i j P ⟨hM, hP, by refine ⟨?_, ?_⟩ <;> (try refine ⟨?_, ?_⟩) <;> omega⟩) mokX11_isPoint w1239 w1241 wps2_4 ⟨Nat.le_of_ble_eq_true rfl, Nat.le_of_ble_eq_true rfl⟩ rfl (by decide) ⟨Nat.le_refl _, Nat.le_refl _⟩ dX11_isCell_11 (fun v w p_3 => ?_)
    obtain ⟨rfl, rfl⟩ := p_3
    show V K sX11_isCell 0 0 (mW a σ) _ [.int (zI (bz (decide (0 ≤ i ∧ i < P 0 0 ∧ 0 ≤ j ∧ j < P 0 1))))] 14
    refine V_ifd_eq (tgt := 21) dX11_isCell_14 (by decide) (fun c_4 => ?_) (fun c_4 => ?_)
    · refine V_iconst dX11_isCell_21 ?_
      show V K sX11_isCell 0 0 (mW a σ) _ [.int (zI (bz false))] 22
      refine V_zret hR rfl (Nat.le_refl _) (Nat.le_refl _) dX11_isCell_22 ?_
      exact ⟨bzF (by omega), rfl⟩
    · refine V_iconst dX11_isCell_17 ?_
      refine V_goto (tgt := 22) dX11_isCell_18 (by decide) ?_
      show V K sX11_isCell 0 0 (mW a σ) _ [.int (zI (bz true))] 22
      refine V_zret hR rfl (Nat.le_refl _) (Nat.le_refl _) dX11_isCell_22 ?_
      exact ⟨bzT (by omega), rfl⟩
set_option maxRecDepth 100000 in
set_option maxHeartbeats 4000000 in
theorem c_cell {E : EV} (hE : Stb E) (a : Nat → Nat) (σ : St) (s0 : Int) (i : Int) (j : Int) (P : St) (hp : MI P ∧ PR P σ) : MC E yX11_cell sX11_cell [.ref (a 0), .int (zI s0), .int (zI i), .int (zI j)] (mW a σ) (fun v w => v = some (.int (zI (64 * s0 + i * P 0 1 + j))) ∧ w = mW a σ) := by
  refine MC.of hE [some (.ref (a 0)), some (.int (zI s0)), some (.int (zI i)), some (.int (zI j))] 0 rfl rfl rfl (by simp [Value.category]) (Nat.le_of_ble_eq_true rfl) (fun K hK hR => ?_)
  obtain ⟨hM, hP⟩ := hp
  have e0 := hP 0 (by decide) (by decide)
  have f0 : ∀ i, σ 0 i = P 0 i := fun i => by rw [e0]
  have mR := hM.1
  have mC := hM.2.1
  have mN := hM.2.2.1
  have mp := hM.pts
  have ma := hM.als
  have gR := f0 0
  have gC := f0 1
  have gN := f0 2
  refine V_bipush dX11_cell_0 (by decide) ?_
  refine V_iload_n dX11_cell_2 rfl ?_
  refine V_imul dX11_cell_3 ?_
  refine V_iload_n dX11_cell_4 rfl ?_
  refine V_aload_n dX11_cell_5 rfl ?_
  refine mg_columns rfl dX11_cell_6 ?_
  refine V_imul dX11_cell_9 ?_
  refine V_iadd dX11_cell_10 ?_
  refine V_iload_n dX11_cell_11 rfl ?_
  refine V_iadd dX11_cell_12 ?_
  refine V_iret hR rfl (Nat.le_refl _) (Nat.le_refl _) dX11_cell_13 ?_
  exact ⟨ziE (by rw [gC]), rfl⟩
set_option maxRecDepth 100000 in
set_option maxHeartbeats 4000000 in
theorem c_row {E : EV} (hE : Stb E) (a : Nat → Nat) (σ : St) (cell : Int) (P : St) (hp : MI P ∧ PR P σ ∧ 0 ≤ cell ∧ cell ≤ 255) : MC E yX11_row sX11_row [.ref (a 0), .int (zI cell)] (mW a σ) (fun v w => v = some (.int (zI (cell % 64 / P 0 1))) ∧ w = mW a σ) := by
  refine MC.of hE [some (.ref (a 0)), some (.int (zI cell))] 0 rfl rfl rfl (by simp [Value.category]) (Nat.le_of_ble_eq_true rfl) (fun K hK hR => ?_)
  obtain ⟨hM, hP, hp⟩ := hp
  have e0 := hP 0 (by decide) (by decide)
  have f0 : ∀ i, σ 0 i = P 0 i := fun i => by rw [e0]
  have mR := hM.1
  have mC := hM.2.1
  have mN := hM.2.2.1
  have mp := hM.pts
  have ma := hM.als
  have gR := f0 0
  have gC := f0 1
  have gN := f0 2
  refine V_iload_n dX11_row_0 rfl ?_
  refine V_bipush dX11_row_1 (by decide) ?_
  refine V_iremN dX11_row_3 ⟨⟨by omega, by omega⟩, ⟨by omega, by omega⟩, by omega, by omega⟩ ?_
  refine V_aload_n dX11_row_4 rfl ?_
  refine mg_columns rfl dX11_row_5 ?_
  refine V_idiv dX11_row_8 ⟨⟨by omega, by omega⟩, ⟨by omega, by omega⟩, by omega, by omega⟩ ?_
  refine V_iret hR rfl (Nat.le_refl _) (Nat.le_refl _) dX11_row_9 ?_
  exact ⟨ziE (by rw [gC]), rfl⟩
set_option maxRecDepth 100000 in
set_option maxHeartbeats 4000000 in
theorem c_column {E : EV} (hE : Stb E) (a : Nat → Nat) (σ : St) (cell : Int) (P : St) (hp : MI P ∧ PR P σ ∧ 0 ≤ cell ∧ cell ≤ 255) : MC E yX11_column sX11_column [.ref (a 0), .int (zI cell)] (mW a σ) (fun v w => v = some (.int (zI (cell % 64 % P 0 1))) ∧ w = mW a σ) := by
  refine MC.of hE [some (.ref (a 0)), some (.int (zI cell))] 0 rfl rfl rfl (by simp [Value.category]) (Nat.le_of_ble_eq_true rfl) (fun K hK hR => ?_)
  obtain ⟨hM, hP, hp⟩ := hp
  have e0 := hP 0 (by decide) (by decide)
  have f0 : ∀ i, σ 0 i = P 0 i := fun i => by rw [e0]
  have mR := hM.1
  have mC := hM.2.1
  have mN := hM.2.2.1
  have mp := hM.pts
  have ma := hM.als
  have gR := f0 0
  have gC := f0 1
  have gN := f0 2
  refine V_iload_n dX11_column_0 rfl ?_
  refine V_bipush dX11_column_1 (by decide) ?_
  refine V_iremN dX11_column_3 ⟨⟨by omega, by omega⟩, ⟨by omega, by omega⟩, by omega, by omega⟩ ?_
  refine V_aload_n dX11_column_4 rfl ?_
  refine mg_columns rfl dX11_column_5 ?_
  refine V_iremN dX11_column_8 ⟨⟨by omega, by omega⟩, ⟨by omega, by omega⟩, by omega, by omega⟩ ?_
  refine V_iret hR rfl (Nat.le_refl _) (Nat.le_refl _) dX11_column_9 ?_
  exact ⟨ziE (by rw [gC]), rfl⟩
set_option maxRecDepth 100000 in
set_option maxHeartbeats 4000000 in
theorem c_all {E : EV} (hE : Stb E) (a : Nat → Nat) (σ : St) (P : St) (hp : MI P ∧ PR P σ) : MC E yX11_all sX11_all [.ref (a 0)] (mW a σ) (fun v w => v = some (.int (zI (al P))) ∧ w = mW a σ) := by
  refine MC.of hE [some (.ref (a 0))] 0 rfl rfl rfl (by simp [Value.category]) (Nat.le_of_ble_eq_true rfl) (fun K hK hR => ?_)
  obtain ⟨hM, hP⟩ := hp
  have e0 := hP 0 (by decide) (by decide)
  have f0 : ∀ i, σ 0 i = P 0 i := fun i => by rw [e0]
  have mR := hM.1
  have mC := hM.2.1
  have mN := hM.2.2.1
  have mp := hM.pts
  have ma := hM.als
  have gR := f0 0
  have gC := f0 1
  have gN := f0 2
  refine V_aload_n dX11_all_0 rfl ?_
  refine mg_statements rfl dX11_all_1 ?_
  refine V_aload_n dX11_all_4 rfl ?_
  refine mg_rows rfl dX11_all_5 ?_
  refine V_imul dX11_all_8 ?_
  refine V_aload_n dX11_all_9 rfl ?_
  refine mg_columns rfl dX11_all_10 ?_
  refine V_imul dX11_all_13 ?_
  refine V_iret hR rfl (Nat.le_refl _) (Nat.le_refl _) dX11_all_14 ?_
  exact ⟨ziE (by rw [gR, gC, gN, al, pt, Int.mul_assoc]), rfl⟩

/-! the class: what the calls ask for -/
set_option maxRecDepth 100000 in
set_option maxHeartbeats 4000000 in
theorem k_requireRange (en : Nat → Nat) (x : Int) (a : Int) (b : Int) (hp : iR x ∧ iR a ∧ iR b) : MCX (EN en) yX10_requireRange sX10_requireRange [.int (zI x), .int (zI a), .int (zI b)] [] (fun v w => v = none ∧ w = [] ∧ ((a ≤ x ∧ x ≤ b))) (fun X w => X = "java/lang/IllegalArgumentException" ∧ w = [] ∧ ¬ (a ≤ x ∧ x ≤ b)) := by
  refine MCX.of (EN.stb en) [some (.int (zI x)), some (.int (zI a)), some (.int (zI b))] 0 rfl rfl rfl (by simp [Value.category]) (Nat.le_of_ble_eq_true rfl) (fun K hK hR hX => ?_)
  have hp1 := hp.1
  have hp2 := hp.2.1
  have hp3 := hp.2.2
  unfold iR at hp1 hp2 hp3
  refine V_iload_n dX10_requireRange_0 rfl ?_
  refine V_iload_n dX10_requireRange_1 rfl ?_
  refine V_icmp_lt (tgt := 10) dX10_requireRange_2 (by decide) ⟨⟨by omega, by omega⟩, ⟨by omega, by omega⟩⟩ (fun c_1 => ?_) (fun c_1 => ?_)
  · refine V_throwS (i := 0) hK hX (⟨rfl, rfl, by omega⟩) rfl (by decide +kernel) (by decide +kernel) w520 w21 hat_IAE hgd_IAE (by decide) rfl dX10_requireRange_10 dX10_requireRange_13 dX10_requireRange_14 dX10_requireRange_17 dX10_requireRange_20 ⟨by decide, by decide⟩ ⟨Nat.le_of_ble_eq_true rfl, Nat.le_of_ble_eq_true rfl⟩ ⟨Nat.le_of_ble_eq_true rfl, Nat.le_of_ble_eq_true rfl⟩
  · refine V_iload_n dX10_requireRange_5 rfl ?_
    refine V_iload_n dX10_requireRange_6 rfl ?_
    refine V_icmp_le (tgt := 21) dX10_requireRange_7 (by decide) ⟨⟨by omega, by omega⟩, ⟨by omega, by omega⟩⟩ (fun c_2 => ?_) (fun c_2 => ?_)
    · refine V_vret hR rfl (Nat.le_of_ble_eq_true rfl) (Nat.le_of_ble_eq_true rfl) dX10_requireRange_21 ?_
      exact ⟨rfl, rfl, by omega⟩
    · refine V_throwS (i := 0) hK hX (⟨rfl, rfl, by omega⟩) rfl (by decide +kernel) (by decide +kernel) w520 w21 hat_IAE hgd_IAE (by decide) rfl dX10_requireRange_10 dX10_requireRange_13 dX10_requireRange_14 dX10_requireRange_17 dX10_requireRange_20 ⟨by decide, by decide⟩ ⟨Nat.le_of_ble_eq_true rfl, Nat.le_of_ble_eq_true rfl⟩ ⟨Nat.le_of_ble_eq_true rfl, Nat.le_of_ble_eq_true rfl⟩
set_option maxRecDepth 100000 in
set_option maxHeartbeats 4000000 in
theorem k_requireWeights (en : Nat → Nat) (x : Int) (y : Int) (hp : iR x ∧ iR y) : MCX (EN en) yX10_requireWeights sX10_requireWeights [.int (zI x), .int (zI y)] [] (fun v w => v = none ∧ w = [] ∧ (((0 ≤ x ∧ x ≤ 9) ∧ (0 ≤ y ∧ y ≤ 9)))) (fun X w => X = "java/lang/IllegalArgumentException" ∧ w = [] ∧ ¬ ((0 ≤ x ∧ x ≤ 9) ∧ (0 ≤ y ∧ y ≤ 9))) := by
  refine MCX.of (EN.stb en) [some (.int (zI x)), some (.int (zI y))] 0 rfl rfl rfl (by simp [Value.category]) (Nat.le_of_ble_eq_true rfl) (fun K hK hR hX => ?_)
  refine V_iload_n dX10_requireWeights_0 rfl ?_
  refine V_iconst dX10_requireWeights_1 ?_
  refine V_bipush dX10_requireWeights_2 (by decide) ?_
  refine V_callXSE (As := [.int (zI x), .int (zI 0), .int (zI 9)]) hK (k_requireRange en x 0 9 (⟨hp.1, ⟨by omega, by omega⟩, ⟨by omega, by omega⟩⟩)) mokX10_requireRange w517 w518 ⟨Nat.le_of_ble_eq_true rfl, Nat.le_of_ble_eq_true rfl⟩ rfl (Nat.le_of_ble_eq_true rfl) ⟨Nat.le_of_ble_eq_true rfl, Nat.le_of_ble_eq_true rfl⟩ dX10_requireWeights_4 hX (fun X w h => ⟨h.1, rfl, fun z => h.2.2 z.1⟩) (Nat.le_of_ble_eq_true rfl) (Nat.le_of_ble_eq_true rfl) (fun v w p_1 => ?_)
  obtain ⟨rfl, rfl, q_2⟩ := p_1
  show V K sX10_requireWeights 1 6 [] [some (.int (zI x)), some (.int (zI y))] [] 7
  refine V_iload_n dX10_requireWeights_7 rfl ?_
  refine V_iconst dX10_requireWeights_8 ?_
  refine V_bipush dX10_requireWeights_9 (by decide) ?_
  refine V_callXSE (As := [.int (zI y), .int (zI 0), .int (zI 9)]) hK (k_requireRange en y 0 9 (⟨hp.2, ⟨by omega, by omega⟩, ⟨by omega, by omega⟩⟩)) mokX10_requireRange w517 w518 ⟨Nat.le_of_ble_eq_true rfl, Nat.le_of_ble_eq_true rfl⟩ rfl (Nat.le_of_ble_eq_true rfl) ⟨Nat.le_of_ble_eq_true rfl, Nat.le_of_ble_eq_true rfl⟩ dX10_requireWeights_11 hX (fun X w h => ⟨h.1, rfl, fun z => h.2.2 z.2⟩) (Nat.le_of_ble_eq_true rfl) (Nat.le_of_ble_eq_true rfl) (fun v w p_3 => ?_)
  obtain ⟨rfl, rfl, q_4⟩ := p_3
  show V K sX10_requireWeights 2 12 [] [some (.int (zI x)), some (.int (zI y))] [] 14
  refine V_vret hR rfl (Nat.le_of_ble_eq_true rfl) (Nat.le_of_ble_eq_true rfl) dX10_requireWeights_14 ?_
  exact ⟨rfl, rfl, q_2, q_4⟩
set_option maxRecDepth 100000 in
set_option maxHeartbeats 4000000 in
theorem k_requireStatement (en : Nat → Nat) (c : Nat → Nat) (κ : St) (x : Int) (P : St) (hp : MI P ∧ CI P κ ∧ iR x) : MCX (EN en) yX10_requireStatement sX10_requireStatement [.ref (c 0), .int (zI x)] (fm (cO en c κ)) (fun v w => v = none ∧ w = fm (cO en c κ) ∧ (0 ≤ x ∧ x < P 0 2)) (fun X w => X = "java/lang/IndexOutOfBoundsException" ∧ w = fm (cO en c κ) ∧ ¬ (0 ≤ x ∧ x < P 0 2)) := by
  refine MCX.of (EN.stb en) [some (.ref (c 0)), some (.int (zI x))] 0 rfl rfl rfl (by simp [Value.category]) (Nat.le_of_ble_eq_true rfl) (fun K hK hR hX => ?_)
  obtain ⟨hM, hC, hp⟩ := hp
  have hN4 := hM.2.2.1
  unfold iR at hp
  refine V_iload_n dX10_requireStatement_0 rfl ?_
  refine V_if_lt (tgt := 18) dX10_requireStatement_1 (by decide) ⟨by omega, by omega⟩ (fun c_1 => ?_) (fun c_1 => ?_)
  · refine V_throwS (i := 2) hK hX (⟨rfl, rfl, by omega⟩) rfl (by decide +kernel) (by decide +kernel) w708 w26 hat_IOB hgd_IOB (by decide) rfl dX10_requireStatement_18 dX10_requireStatement_21 dX10_requireStatement_22 dX10_requireStatement_25 dX10_requireStatement_28 ⟨by decide, by decide⟩ ⟨Nat.le_of_ble_eq_true rfl, Nat.le_of_ble_eq_true rfl⟩ ⟨Nat.le_of_ble_eq_true rfl, Nat.le_of_ble_eq_true rfl⟩
  · refine V_iload_n dX10_requireStatement_4 rfl ?_
    refine V_aload_n dX10_requireStatement_5 rfl ?_
    refine VO_getf (C0 := RX10) (T := TX10) (N := 9) (ci := 9) (fs := cwF c κ) 0 0 iwX10 (by decide) w233 (Or.inl rfl) rfl (at_cw) rfl dX10_requireStatement_6 ?_
    refine VO_getN (C0 := RX5) (T := TX5) (N := 4) (ci := 4) (fs := prF c κ) 1 0 iwX5 (by decide) hK wn69 rfl (at_pr) rfl dX10_requireStatement_9 ?_
    show V K sX10_requireStatement 0 0 (fm (cO en c κ)) [some (.ref (c 0)), some (.int (zI x))] [.ref (c (35 + 8 * Int.toNat 4)), .int (zI x)] 12
    refine VO_callVF (As := []) (b := c (35 + 8 * Int.toNat 4)) (i := 35 + 8 * Int.toNat 4) (ci := 0) (fs := alF en c κ 4) (T := TJx4a65c) (N := 3) (at_al (CI.w4 _)) rfl hK (k_size4 en c κ P ⟨hM, hC⟩) mokJx4a65c_size_8abf5 w364 w270 w271 ⟨Nat.le_of_ble_eq_true rfl, Nat.le_of_ble_eq_true rfl⟩ rfl (Nat.le_of_ble_eq_true rfl) ⟨Nat.le_of_ble_eq_true rfl, Nat.le_of_ble_eq_true rfl⟩ dX10_requireStatement_12 (fun v w p_2 => ?_)
    obtain ⟨rfl, rfl⟩ := p_2
    show V K sX10_requireStatement 0 0 (fm (cO en c κ)) [some (.ref (c 0)), some (.int (zI x))] [.int (zI (P 0 2)), .int (zI x)] 15
    refine V_icmp_lt (tgt := 29) dX10_requireStatement_15 (by decide) ⟨⟨by omega, by omega⟩, ⟨by omega, by omega⟩⟩ (fun c_3 => ?_) (fun c_3 => ?_)
    · refine V_vret hR rfl (Nat.le_of_ble_eq_true rfl) (Nat.le_of_ble_eq_true rfl) dX10_requireStatement_29 ?_
      exact ⟨rfl, rfl, by omega⟩
    · refine V_throwS (i := 2) hK hX (⟨rfl, rfl, by omega⟩) rfl (by decide +kernel) (by decide +kernel) w708 w26 hat_IOB hgd_IOB (by decide) rfl dX10_requireStatement_18 dX10_requireStatement_21 dX10_requireStatement_22 dX10_requireStatement_25 dX10_requireStatement_28 ⟨by decide, by decide⟩ ⟨Nat.le_of_ble_eq_true rfl, Nat.le_of_ble_eq_true rfl⟩ ⟨Nat.le_of_ble_eq_true rfl, Nat.le_of_ble_eq_true rfl⟩
set_option maxRecDepth 100000 in
set_option maxHeartbeats 4000000 in
theorem k_requirePoint (en : Nat → Nat) (c : Nat → Nat) (κ : St) (x : Int) (y : Int) (P : St) (hp : MI P ∧ CI P κ ∧ iR x ∧ iR y) : MCX (EN en) yX10_requirePoint sX10_requirePoint [.ref (c 0), .int (zI x), .int (zI y)] (fm (cO en c κ)) (fun v w => v = none ∧ w = fm (cO en c κ) ∧ (inF P x y)) (fun X w => X = "java/lang/IndexOutOfBoundsException" ∧ w = fm (cO en c κ) ∧ ¬ inF P x y) := by
  refine MCX.of (EN.stb en) [some (.ref (c 0)), some (.int (zI x)), some (.int (zI y))] 0 rfl rfl rfl (by simp [Value.category]) (Nat.le_of_ble_eq_true rfl) (fun K hK hR hX => ?_)
  obtain ⟨hM, hC, hp⟩ := hp
  have hN4 := hM.2.2.1
  refine V_aload_n dX10_requirePoint_0 rfl ?_
  refine VO_getf (C0 := RX10) (T := TX10) (N := 9) (ci := 9) (fs := cwF c κ) 0 0 iwX10 (by decide) w233 (Or.inl rfl) rfl (at_cw) rfl dX10_requirePoint_1 ?_
  refine V_iload_n dX10_requirePoint_4 rfl ?_
  refine V_iload_n dX10_requirePoint_5 rfl ?_
  refine VO_callVF (As := [.int (zI x), .int (zI y)]) (b := c 1) (i := 1) (ci := 4) (fs := prF c κ) (T := TX5) (N := 4) (at_pr) rfl hK (k_w5_hasPoint en c κ x y P ⟨hM, hC, hp⟩) mokX5_hasPoint w838 w346 w347 ⟨Nat.le_of_ble_eq_true rfl, Nat.le_of_ble_eq_true rfl⟩ rfl (Nat.le_of_ble_eq_true rfl) ⟨Nat.le_of_ble_eq_true rfl, Nat.le_of_ble_eq_true rfl⟩ dX10_requirePoint_6 (fun v w p_1 => ?_)
  obtain ⟨rfl, rfl⟩ := p_1
  show V K sX10_requirePoint 0 0 (fm (cO en c κ)) [some (.ref (c 0)), some (.int (zI x)), some (.int (zI y))] [.int (zI (bz (dcd (inF P x y))))] 9
  refine V_ifc_ne (tgt := 23) dX10_requirePoint_9 (by decide) (fun c_2 => ?_) (fun c_2 => ?_)
  · refine V_vret hR rfl (Nat.le_of_ble_eq_true rfl) (Nat.le_of_ble_eq_true rfl) dX10_requirePoint_23 ?_
    exact ⟨rfl, rfl, c_2⟩
  · refine V_throwS (i := 5) hK hX (⟨rfl, rfl, c_2⟩) rfl (by decide +kernel) (by decide +kernel) w708 w26 hat_IOB hgd_IOB (by decide) rfl dX10_requirePoint_12 dX10_requirePoint_15 dX10_requirePoint_16 dX10_requirePoint_19 dX10_requirePoint_22 ⟨by decide, by decide⟩ ⟨Nat.le_of_ble_eq_true rfl, Nat.le_of_ble_eq_true rfl⟩ ⟨Nat.le_of_ble_eq_true rfl, Nat.le_of_ble_eq_true rfl⟩
set_option maxRecDepth 100000 in
set_option maxHeartbeats 4000000 in
theorem k_requireCell (en : Nat → Nat) (c : Nat → Nat) (κ : St) (s : Int) (x : Int) (y : Int) (P : St) (hp : MI P ∧ CI P κ ∧ iR s ∧ iR x ∧ iR y) : MCX (EN en) yX10_requireCell sX10_requireCell [.ref (c 0), .int (zI s), .int (zI x), .int (zI y)] (fm (cO en c κ)) (fun v w => v = some (.int (zI (cc P s x y))) ∧ w = fm (cO en c κ) ∧ (inC P s x y)) (fun X w => X = "java/lang/IndexOutOfBoundsException" ∧ w = fm (cO en c κ) ∧ ¬ inC P s x y) := by
  refine MCX.of (EN.stb en) [some (.ref (c 0)), some (.int (zI s)), some (.int (zI x)), some (.int (zI y))] 0 rfl rfl rfl (by simp [Value.category]) (Nat.le_of_ble_eq_true rfl) (fun K hK hR hX => ?_)
  obtain ⟨hM, hC, hp⟩ := hp
  have hN4 := hM.2.2.1
  refine V_aload_n dX10_requireCell_0 rfl ?_
  refine V_iload_n dX10_requireCell_1 rfl ?_
  refine VO_callXVF (As := [.int (zI s)]) (b := c 0) (i := 0) (ci := 9) (fs := cwF c κ) (T := TX10) (N := 9) (at_cw) rfl hK (k_requireStatement en c κ s P ⟨hM, hC, hp.1⟩) mokX10_requireStatement w704 w706 wps1_1 ⟨Nat.le_of_ble_eq_true rfl, Nat.le_of_ble_eq_true rfl⟩ rfl (Nat.le_of_ble_eq_true rfl) ⟨Nat.le_of_ble_eq_true rfl, Nat.le_of_ble_eq_true rfl⟩ dX10_requireCell_2 hX (fun X w h => ⟨h.1, h.2.1, fun z => h.2.2 z.1⟩) (Nat.le_of_ble_eq_true rfl) (Nat.le_of_ble_eq_true rfl) (fun v w p_1 => ?_)
  obtain ⟨rfl, rfl, q_2⟩ := p_1
  show V K sX10_requireCell 1 6 (fm (cO en c κ)) [some (.ref (c 0)), some (.int (zI s)), some (.int (zI x)), some (.int (zI y))] [] 5
  refine V_aload_n dX10_requireCell_5 rfl ?_
  refine V_iload_n dX10_requireCell_6 rfl ?_
  refine V_iload_n dX10_requireCell_7 rfl ?_
  refine VO_callXVF (As := [.int (zI x), .int (zI y)]) (b := c 0) (i := 0) (ci := 9) (fs := cwF c κ) (T := TX10) (N := 9) (at_cw) rfl hK (k_requirePoint en c κ x y P ⟨hM, hC, hp.2⟩) mokX10_requirePoint w834 w836 wps1_5 ⟨Nat.le_of_ble_eq_true rfl, Nat.le_of_ble_eq_true rfl⟩ rfl (Nat.le_of_ble_eq_true rfl) ⟨Nat.le_of_ble_eq_true rfl, Nat.le_of_ble_eq_true rfl⟩ dX10_requireCell_8 hX (fun X w h => ⟨h.1, h.2.1, fun z => h.2.2 z.2⟩) (Nat.le_of_ble_eq_true rfl) (Nat.le_of_ble_eq_true rfl) (fun v w p_3 => ?_)
  obtain ⟨rfl, rfl, q_4⟩ := p_3
  show V K sX10_requireCell 2 12 (fm (cO en c κ)) [some (.ref (c 0)), some (.int (zI s)), some (.int (zI x)), some (.int (zI y))] [] 11
  refine V_aload_n dX10_requireCell_11 rfl ?_
  refine VO_getf (C0 := RX10) (T := TX10) (N := 9) (ci := 9) (fs := cwF c κ) 0 0 iwX10 (by decide) w233 (Or.inl rfl) rfl (at_cw) rfl dX10_requireCell_12 ?_
  refine V_iload_n dX10_requireCell_15 rfl ?_
  refine V_iload_n dX10_requireCell_16 rfl ?_
  refine V_iload_n dX10_requireCell_17 rfl ?_
  refine VO_callVF (As := [.int (zI s), .int (zI x), .int (zI y)]) (b := c 1) (i := 1) (ci := 4) (fs := prF c κ) (T := TX5) (N := 4) (at_pr) rfl hK (k_w5_cellOf en c κ s x y P ⟨hM, hC⟩) mokX5_cellOf w840 w350 w351 ⟨Nat.le_of_ble_eq_true rfl, Nat.le_of_ble_eq_true rfl⟩ rfl (Nat.le_of_ble_eq_true rfl) ⟨Nat.le_of_ble_eq_true rfl, Nat.le_of_ble_eq_true rfl⟩ dX10_requireCell_18 (fun v w p_5 => ?_)
  obtain ⟨rfl, rfl⟩ := p_5
  show V K sX10_requireCell 2 12 (fm (cO en c κ)) [some (.ref (c 0)), some (.int (zI s)), some (.int (zI x)), some (.int (zI y))] [.int (zI (s * pt P + (x * P 0 1 + y)))] 21
  refine V_iret hR rfl (Nat.le_of_ble_eq_true rfl) (Nat.le_of_ble_eq_true rfl) dX10_requireCell_21 ?_
  exact ⟨rfl, rfl, q_2, q_4⟩
set_option maxRecDepth 100000 in
set_option maxHeartbeats 4000000 in
theorem k_requireStep (en : Nat → Nat) (c : Nat → Nat) (κ : St) (x : Int) (P : St) (hp : MI P ∧ CI P κ ∧ iR x) : MCX (EN en) yX10_requireStep sX10_requireStep [.ref (c 0), .int (zI x)] (fm (cO en c κ)) (fun v w => v = none ∧ w = fm (cO en c κ) ∧ (0 ≤ x ∧ x < al P)) (fun X w => X = "java/lang/IndexOutOfBoundsException" ∧ w = fm (cO en c κ) ∧ ¬ (0 ≤ x ∧ x < al P)) := by
  refine MCX.of (EN.stb en) [some (.ref (c 0)), some (.int (zI x))] 0 rfl rfl rfl (by simp [Value.category]) (Nat.le_of_ble_eq_true rfl) (fun K hK hR hX => ?_)
  obtain ⟨hM, hC, hp⟩ := hp
  have hN4 := hM.2.2.1
  unfold iR at hp
  have hal := hM.als
  refine V_iload_n dX10_requireStep_0 rfl ?_
  refine V_if_lt (tgt := 15) dX10_requireStep_1 (by decide) ⟨by omega, by omega⟩ (fun c_1 => ?_) (fun c_1 => ?_)
  · refine V_throwS (i := 7) hK hX (⟨rfl, rfl, by omega⟩) rfl (by decide +kernel) (by decide +kernel) w708 w26 hat_IOB hgd_IOB (by decide) rfl dX10_requireStep_15 dX10_requireStep_18 dX10_requireStep_19 dX10_requireStep_22 dX10_requireStep_25 ⟨by decide, by decide⟩ ⟨Nat.le_of_ble_eq_true rfl, Nat.le_of_ble_eq_true rfl⟩ ⟨Nat.le_of_ble_eq_true rfl, Nat.le_of_ble_eq_true rfl⟩
  · refine V_iload_n dX10_requireStep_4 rfl ?_
    refine V_aload_n dX10_requireStep_5 rfl ?_
    refine VO_getf (C0 := RX10) (T := TX10) (N := 9) (ci := 9) (fs := cwF c κ) 0 0 iwX10 (by decide) w233 (Or.inl rfl) rfl (at_cw) rfl dX10_requireStep_6 ?_
    refine VO_callVF (As := []) (b := c 1) (i := 1) (ci := 4) (fs := prF c κ) (T := TX5) (N := 4) (at_pr) rfl hK (k_w5_cells en c κ P ⟨hM, hC⟩) mokX5_cells w300 w301 w302 ⟨Nat.le_of_ble_eq_true rfl, Nat.le_of_ble_eq_true rfl⟩ rfl (Nat.le_of_ble_eq_true rfl) ⟨Nat.le_of_ble_eq_true rfl, Nat.le_of_ble_eq_true rfl⟩ dX10_requireStep_9 (fun v w p_2 => ?_)
    obtain ⟨rfl, rfl⟩ := p_2
    show V K sX10_requireStep 0 0 (fm (cO en c κ)) [some (.ref (c 0)), some (.int (zI x))] [.int (zI (al P)), .int (zI x)] 12
    refine V_icmp_lt (tgt := 26) dX10_requireStep_12 (by decide) ⟨⟨by omega, by omega⟩, ⟨by omega, by omega⟩⟩ (fun c_3 => ?_) (fun c_3 => ?_)
    · refine V_vret hR rfl (Nat.le_of_ble_eq_true rfl) (Nat.le_of_ble_eq_true rfl) dX10_requireStep_26 ?_
      exact ⟨rfl, rfl, by omega⟩
    · refine V_throwS (i := 7) hK hX (⟨rfl, rfl, by omega⟩) rfl (by decide +kernel) (by decide +kernel) w708 w26 hat_IOB hgd_IOB (by decide) rfl dX10_requireStep_15 dX10_requireStep_18 dX10_requireStep_19 dX10_requireStep_22 dX10_requireStep_25 ⟨by decide, by decide⟩ ⟨Nat.le_of_ble_eq_true rfl, Nat.le_of_ble_eq_true rfl⟩ ⟨Nat.le_of_ble_eq_true rfl, Nat.le_of_ble_eq_true rfl⟩

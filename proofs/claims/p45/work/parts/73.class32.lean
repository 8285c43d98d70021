/-! the class: kept if smaller -/
theorem wsz_b {κ : St} {i p : Int} (h : WB κ i) (hp : 0 ≤ p ∧ p ≤ 64) : 0 ≤ wsz κ i p ∧ wsz κ i p ≤ 9801 := by
  obtain ⟨h1, h2, h3, h4, h5⟩ := h
  have m := mulB (a := κ 41 i) (b := κ 42 i) (A := 99) (B := 99) (by omega) (by omega) (by omega) (by omega)
  unfold wsz
  split
  · omega
  · split <;> omega
set_option maxRecDepth 100000 in
set_option maxHeartbeats 4000000 in
theorem k_keepIfSmaller (en : Nat → Nat) (c : Nat → Nat) (κ : St) (i : Int) (P : St) (hp : MI P ∧ CI P κ ∧ (0 ≤ i ∧ i < P 0 2) ∧ WB κ i ∧ WB κ 4) : MC (EN en) yX10_keepIfSmaller sX10_keepIfSmaller [.ref (c 0), .ref (c (34 + 8 * Int.toNat i))] (fm (cO en c κ)) (fun v w => ∃ κ2 : St, v = none ∧ w = fm (cO en c κ2) ∧ (CI P κ2) ∧ (frW i κ κ2) ∧ (wsz κ 4 (pt P) < wsz κ i (pt P) → cpW i 4 κ κ2) ∧ (¬ wsz κ 4 (pt P) < wsz κ i (pt P) → κ2 = κ)) := by
  refine MC.of (EN.stb en) [some (.ref (c 0)), some (.ref (c (34 + 8 * Int.toNat i))), none] 1 rfl rfl rfl (by simp [Value.category]) (Nat.le_of_ble_eq_true rfl) (fun K hK hR => ?_)
  obtain ⟨hM, hC, hp⟩ := hp
  have hN4 := hM.2.2.1
  obtain ⟨hi, hB, hB4⟩ := hp
  have hpt := hM.pts
  have b1 := wsz_b hB (p := pt P) ⟨by omega, by omega⟩
  have b2 := wsz_b hB4 (p := pt P) ⟨by omega, by omega⟩
  refine V_aload_n dX10_keepIfSmaller_0 rfl ?_
  refine VO_getf (C0 := RX10) (T := TX10) (N := 9) (ci := 9) (fs := cwF c κ) 0 0 iwX10 (by decide) w233 (Or.inl rfl) rfl (at_cw) rfl dX10_keepIfSmaller_1 ?_
  refine VO_getN (C0 := RX5) (T := TX5) (N := 4) (ci := 4) (fs := prF c κ) 1 3 iwX5 (by decide) hK wn81 rfl (at_pr) rfl dX10_keepIfSmaller_4 ?_
  refine V_eqT (y := zI (pt P)) (congrArg zI (hC).2.1) ?_
  refine V_istore_n (L' := [some (.ref (c 0)), some (.ref (c (34 + 8 * Int.toNat i))), some (.int (zI (pt P)))]) dX10_keepIfSmaller_7 (by decide) rfl ?_
  refine V_aload_n dX10_keepIfSmaller_8 rfl ?_
  refine VO_getf (C0 := RX10) (T := TX10) (N := 9) (ci := 9) (fs := cwF c κ) 0 3 iwX10 (by decide) w236 (Or.inl rfl) rfl (at_cw) rfl dX10_keepIfSmaller_9 ?_
  show V K sX10_keepIfSmaller 0 0 (fm (cO en c κ)) [some (.ref (c 0)), some (.ref (c (34 + 8 * Int.toNat i))), some (.int (zI (pt P)))] [.ref (c (34 + 8 * Int.toNat 4))] 12
  refine V_iload_n dX10_keepIfSmaller_12 rfl ?_
  refine VO_callVF (As := [.int (zI (pt P))]) (b := c (34 + 8 * Int.toNat 4)) (i := 34 + 8 * Int.toNat 4) (ci := 7) (fs := wnF en κ 4) (T := TX8) (N := 5) (at_wn (CI.w4 _)) rfl hK (k_w8_places en c κ 4 (pt P) (⟨CI.w4 _, hB4, ⟨by omega, by omega⟩⟩)) mokX8_places w433 w434 w435 ⟨Nat.le_of_ble_eq_true rfl, Nat.le_of_ble_eq_true rfl⟩ rfl (Nat.le_of_ble_eq_true rfl) ⟨Nat.le_of_ble_eq_true rfl, Nat.le_of_ble_eq_true rfl⟩ dX10_keepIfSmaller_13 (fun v w p_1 => ?_)
  obtain ⟨rfl, rfl⟩ := p_1
  show V K sX10_keepIfSmaller 0 0 (fm (cO en c κ)) [some (.ref (c 0)), some (.ref (c (34 + 8 * Int.toNat i))), some (.int (zI (pt P)))] [.int (zI (wsz κ 4 (pt P)))] 16
  refine V_aload_n dX10_keepIfSmaller_16 rfl ?_
  refine V_iload_n dX10_keepIfSmaller_17 rfl ?_
  refine VO_callVF (As := [.int (zI (pt P))]) (b := c (34 + 8 * Int.toNat i)) (i := 34 + 8 * Int.toNat i) (ci := 7) (fs := wnF en κ i) (T := TX8) (N := 5) (at_wn ((hC).wn hM (by omega))) rfl hK (k_w8_places en c κ i (pt P) (⟨hC.wn hM hi, hB, ⟨by omega, by omega⟩⟩)) mokX8_places w433 w434 w435 ⟨Nat.le_of_ble_eq_true rfl, Nat.le_of_ble_eq_true rfl⟩ rfl (Nat.le_of_ble_eq_true rfl) ⟨Nat.le_of_ble_eq_true rfl, Nat.le_of_ble_eq_true rfl⟩ dX10_keepIfSmaller_18 (fun v w p_2 => ?_)
  obtain ⟨rfl, rfl⟩ := p_2
  show V K sX10_keepIfSmaller 0 0 (fm (cO en c κ)) [some (.ref (c 0)), some (.ref (c (34 + 8 * Int.toNat i))), some (.int (zI (pt P)))] [.int (zI (wsz κ i (pt P))), .int (zI (wsz κ 4 (pt P)))] 21
  refine V_icmp_ge (tgt := 32) dX10_keepIfSmaller_21 (by decide) ⟨⟨by omega, by omega⟩, ⟨by omega, by omega⟩⟩ (fun c_3 => ?_) (fun c_3 => ?_)
  · refine V_vret hR rfl (Nat.le_of_ble_eq_true rfl) (Nat.le_of_ble_eq_true rfl) dX10_keepIfSmaller_32 ?_
    exact ⟨κ, rfl, rfl, hC, frW.rf i κ, fun z => absurd z (by omega), fun _ => rfl⟩
  · refine V_aload_n dX10_keepIfSmaller_24 rfl ?_
    refine V_aload_n dX10_keepIfSmaller_25 rfl ?_
    refine VO_getf (C0 := RX10) (T := TX10) (N := 9) (ci := 9) (fs := cwF c κ) 0 3 iwX10 (by decide) w236 (Or.inl rfl) rfl (at_cw) rfl dX10_keepIfSmaller_26 ?_
    show V K sX10_keepIfSmaller 0 0 (fm (cO en c κ)) [some (.ref (c 0)), some (.ref (c (34 + 8 * Int.toNat i))), some (.int (zI (pt P)))] [.ref (c (34 + 8 * Int.toNat 4)), .ref (c (34 + 8 * Int.toNat i))] 29
    refine VO_callVF (As := [.ref (c (34 + 8 * Int.toNat 4))]) (b := c (34 + 8 * Int.toNat i)) (i := 34 + 8 * Int.toNat i) (ci := 7) (fs := wnF en κ i) (T := TX8) (N := 5) (at_wn ((hC).wn hM (by omega))) rfl hK (k_w8_become en c κ i 4 (⟨hC.wn hM hi, CI.w4 _, hB4.1.1⟩)) mokX8_become w439 w440 w441 ⟨Nat.le_of_ble_eq_true rfl, Nat.le_of_ble_eq_true rfl⟩ rfl (Nat.le_of_ble_eq_true rfl) ⟨Nat.le_of_ble_eq_true rfl, Nat.le_of_ble_eq_true rfl⟩ dX10_keepIfSmaller_29 (fun v w p_4 => ?_)
    obtain ⟨κ_5, rfl, rfl, q_6, q_7⟩ := p_4
    show V K sX10_keepIfSmaller 0 0 (fm (cO en c κ_5)) [some (.ref (c 0)), some (.ref (c (34 + 8 * Int.toNat i))), some (.int (zI (pt P)))] [] 32
    refine V_vret hR rfl (Nat.le_of_ble_eq_true rfl) (Nat.le_of_ble_eq_true rfl) dX10_keepIfSmaller_32 ?_
    exact ⟨_, rfl, rfl, hC.frW q_6, q_6, fun _ => q_7, fun z => absurd c_3 z⟩

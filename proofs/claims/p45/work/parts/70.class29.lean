/-! the class: best weights and room -/
set_option maxRecDepth 100000 in
set_option maxHeartbeats 4000000 in
theorem k_bestRowWeight (en : Nat → Nat) (c : Nat → Nat) (κ : St) (P : St) (hp : MI P ∧ CI P κ ∧ WR P κ ∧ WB κ 4) : MCX (EN en) yX10_bestRowWeight sX10_bestRowWeight [.ref (c 0)] (fm (cO en c κ)) (fun v w => ∃ κ2 : St, v = some (.int (zI ((sp_bestRowWeight P).2.1))) ∧ w = fm (cO en c κ2) ∧ ((sp_bestRowWeight P).1 = 0) ∧ (CWP (sp_bestRowWeight P).2.2 κ2)) (XP1 en c (sp_bestRowWeight P) P [(1, ISEs)]) := by
  refine MCX.of (EN.stb en) [some (.ref (c 0))] 0 rfl rfl rfl (by simp [Value.category]) (Nat.le_of_ble_eq_true rfl) (fun K hK hR hX => ?_)
  obtain ⟨hM, hC, hp⟩ := hp
  have hN4 := hM.2.2.1
  obtain ⟨hW, hW4⟩ := hp
  have hCW : CWP P κ := ⟨hC, hW, hW4⟩
  refine V_aload_n dX10_bestRowWeight_0 rfl ?_
  refine VO_callXVF (As := []) (b := c 0) (i := 0) (ci := 9) (fs := cwF c κ) (T := TX10) (N := 9) (at_cw) rfl hK (k_findBest en c κ P ⟨hM, hC, hW, hW4⟩) mokX10_findBest w805 w807 wps1_2 ⟨Nat.le_of_ble_eq_true rfl, Nat.le_of_ble_eq_true rfl⟩ rfl (Nat.le_of_ble_eq_true rfl) ⟨Nat.le_of_ble_eq_true rfl, Nat.le_of_ble_eq_true rfl⟩ dX10_bestRowWeight_1 hX (fun X w h => by obtain ⟨h1, ⟨κ9, h2, h3⟩, h4⟩ := h; exact XP1.of (gc_f h4) h1 (by decide) h2 h3) (Nat.le_of_ble_eq_true rfl) (Nat.le_of_ble_eq_true rfl) (fun v w p_1 => ?_)
  obtain ⟨κ_2, rfl, rfl, q_3, q_4, q_5⟩ := p_1
  show V K sX10_bestRowWeight 1 6 (fm (cO en c κ_2)) [some (.ref (c 0))] [] 4
  have hbq := bs_eq q_5.1 q_5.2
  have hbh := (hasB_iff q_5.1).mpr q_5.2
  refine V_aload_n dX10_bestRowWeight_4 rfl ?_
  refine VO_getf (C0 := RX10) (T := TX10) (N := 9) (ci := 9) (fs := cwF c κ_2) 0 6 iwX10 (by decide) w239 (Or.inl rfl) rfl (at_cw) rfl dX10_bestRowWeight_5 ?_
  refine VO_getN (C0 := RX1) (T := TX1) (N := 4) (ci := 1) (fs := bsF κ_2) 30 1 iwX1 (by decide) hK wn219 rfl (at_bs) rfl dX10_bestRowWeight_8 ?_
  refine V_iret hR rfl (Nat.le_of_ble_eq_true rfl) (Nat.le_of_ble_eq_true rfl) dX10_bestRowWeight_11 ?_
  exact pubC (sp := sp_bestRowWeight P) (gc_t hbh) (ziE hbq.2.1) q_4
set_option maxRecDepth 100000 in
set_option maxHeartbeats 4000000 in
theorem k_bestColumnWeight (en : Nat → Nat) (c : Nat → Nat) (κ : St) (P : St) (hp : MI P ∧ CI P κ ∧ WR P κ ∧ WB κ 4) : MCX (EN en) yX10_bestColumnWeight sX10_bestColumnWeight [.ref (c 0)] (fm (cO en c κ)) (fun v w => ∃ κ2 : St, v = some (.int (zI ((sp_bestColumnWeight P).2.1))) ∧ w = fm (cO en c κ2) ∧ ((sp_bestColumnWeight P).1 = 0) ∧ (CWP (sp_bestColumnWeight P).2.2 κ2)) (XP1 en c (sp_bestColumnWeight P) P [(1, ISEs)]) := by
  refine MCX.of (EN.stb en) [some (.ref (c 0))] 0 rfl rfl rfl (by simp [Value.category]) (Nat.le_of_ble_eq_true rfl) (fun K hK hR hX => ?_)
  obtain ⟨hM, hC, hp⟩ := hp
  have hN4 := hM.2.2.1
  obtain ⟨hW, hW4⟩ := hp
  have hCW : CWP P κ := ⟨hC, hW, hW4⟩
  refine V_aload_n dX10_bestColumnWeight_0 rfl ?_
  refine VO_callXVF (As := []) (b := c 0) (i := 0) (ci := 9) (fs := cwF c κ) (T := TX10) (N := 9) (at_cw) rfl hK (k_findBest en c κ P ⟨hM, hC, hW, hW4⟩) mokX10_findBest w805 w807 wps1_2 ⟨Nat.le_of_ble_eq_true rfl, Nat.le_of_ble_eq_true rfl⟩ rfl (Nat.le_of_ble_eq_true rfl) ⟨Nat.le_of_ble_eq_true rfl, Nat.le_of_ble_eq_true rfl⟩ dX10_bestColumnWeight_1 hX (fun X w h => by obtain ⟨h1, ⟨κ9, h2, h3⟩, h4⟩ := h; exact XP1.of (gc_f h4) h1 (by decide) h2 h3) (Nat.le_of_ble_eq_true rfl) (Nat.le_of_ble_eq_true rfl) (fun v w p_1 => ?_)
  obtain ⟨κ_2, rfl, rfl, q_3, q_4, q_5⟩ := p_1
  show V K sX10_bestColumnWeight 1 6 (fm (cO en c κ_2)) [some (.ref (c 0))] [] 4
  have hbq := bs_eq q_5.1 q_5.2
  have hbh := (hasB_iff q_5.1).mpr q_5.2
  refine V_aload_n dX10_bestColumnWeight_4 rfl ?_
  refine VO_getf (C0 := RX10) (T := TX10) (N := 9) (ci := 9) (fs := cwF c κ_2) 0 6 iwX10 (by decide) w239 (Or.inl rfl) rfl (at_cw) rfl dX10_bestColumnWeight_5 ?_
  refine VO_getN (C0 := RX1) (T := TX1) (N := 4) (ci := 1) (fs := bsF κ_2) 30 2 iwX1 (by decide) hK wn221 rfl (at_bs) rfl dX10_bestColumnWeight_8 ?_
  refine V_iret hR rfl (Nat.le_of_ble_eq_true rfl) (Nat.le_of_ble_eq_true rfl) dX10_bestColumnWeight_11 ?_
  exact pubC (sp := sp_bestColumnWeight P) (gc_t hbh) (ziE hbq.2.2) q_4
set_option maxRecDepth 100000 in
set_option maxHeartbeats 4000000 in
theorem k_bestRoom (en : Nat → Nat) (c : Nat → Nat) (κ : St) (P : St) (hp : MI P ∧ CI P κ ∧ WR P κ ∧ WB κ 4) : MCX (EN en) yX10_bestRoom sX10_bestRoom [.ref (c 0)] (fm (cO en c κ)) (fun v w => ∃ κ2 : St, v = some (.int (zI ((sp_bestRoom P).2.1))) ∧ w = fm (cO en c κ2) ∧ ((sp_bestRoom P).1 = 0) ∧ (CWP (sp_bestRoom P).2.2 κ2)) (XP1 en c (sp_bestRoom P) P [(1, ISEs)]) := by
  refine MCX.of (EN.stb en) [some (.ref (c 0))] 0 rfl rfl rfl (by simp [Value.category]) (Nat.le_of_ble_eq_true rfl) (fun K hK hR hX => ?_)
  obtain ⟨hM, hC, hp⟩ := hp
  have hN4 := hM.2.2.1
  obtain ⟨hW, hW4⟩ := hp
  have hCW : CWP P κ := ⟨hC, hW, hW4⟩
  refine V_aload_n dX10_bestRoom_0 rfl ?_
  refine VO_callXVF (As := []) (b := c 0) (i := 0) (ci := 9) (fs := cwF c κ) (T := TX10) (N := 9) (at_cw) rfl hK (k_findBest en c κ P ⟨hM, hC, hW, hW4⟩) mokX10_findBest w805 w807 wps1_2 ⟨Nat.le_of_ble_eq_true rfl, Nat.le_of_ble_eq_true rfl⟩ rfl (Nat.le_of_ble_eq_true rfl) ⟨Nat.le_of_ble_eq_true rfl, Nat.le_of_ble_eq_true rfl⟩ dX10_bestRoom_1 hX (fun X w h => by obtain ⟨h1, ⟨κ9, h2, h3⟩, h4⟩ := h; exact XP1.of (gc_f h4) h1 (by decide) h2 h3) (Nat.le_of_ble_eq_true rfl) (Nat.le_of_ble_eq_true rfl) (fun v w p_1 => ?_)
  obtain ⟨κ_2, rfl, rfl, q_3, q_4, q_5⟩ := p_1
  show V K sX10_bestRoom 1 6 (fm (cO en c κ_2)) [some (.ref (c 0))] [] 4
  have hbq := bs_eq q_5.1 q_5.2
  have hbh := (hasB_iff q_5.1).mpr q_5.2
  refine V_aload_n dX10_bestRoom_4 rfl ?_
  refine VO_getf (C0 := RX10) (T := TX10) (N := 9) (ci := 9) (fs := cwF c κ_2) 0 6 iwX10 (by decide) w239 (Or.inl rfl) rfl (at_cw) rfl dX10_bestRoom_5 ?_
  refine VO_getN (C0 := RX1) (T := TX1) (N := 4) (ci := 1) (fs := bsF κ_2) 30 3 iwX1 (by decide) hK wn223 rfl (at_bs) rfl dX10_bestRoom_8 ?_
  refine V_iret hR rfl (Nat.le_of_ble_eq_true rfl) (Nat.le_of_ble_eq_true rfl) dX10_bestRoom_11 ?_
  exact pubC (sp := sp_bestRoom P) (gc_t hbh) (ziE hbq.1) q_4

/-! the class: settings -/
theorem fit_z {v : Int} (h : v = 0 ∨ v = 1) : fits .boolean (.int (zI v)) = true := by rcases h with rfl | rfl <;> rfl
theorem ci_sched {P κ : St} (h : CI P κ) (x y : Int) : CI (up (up P 0 11 x) 0 12 y) (up (up κ 0 11 x) 0 12 y) := ⟨(h.1.upP 0 11 x).upP 0 12 y, h.2.1, h.2.2⟩
theorem ci_off {P κ : St} (h : CI P κ) (s x : Int) : CI (up P 10 s x) (up κ 10 s x) := ⟨h.1.upP 10 s x, h.2.1, h.2.2⟩
theorem ci_last {P κ : St} (h : CI P κ) (s x : Int) : CI (up P 9 s x) (up κ 9 s x) := ⟨h.1.upP 9 s x, h.2.1, h.2.2⟩
theorem ci_field {P κ : St} (h : CI P κ) (x y : Int) : CI (up (up P 0 0 x) 0 1 y) (up (up (up κ 0 0 x) 0 1 y) 49 0 (x * y)) := by
  have hp : PR (up (up P 0 0 x) 0 1 y) (up (up κ 0 0 x) 0 1 y) := (h.1.upP 0 0 x).upP 0 1 y
  exact ⟨hp.up (by decide), rfl, h.2.2⟩
set_option maxRecDepth 100000 in
set_option maxHeartbeats 4000000 in
theorem k_setSchedule (en : Nat → Nat) (c : Nat → Nat) (κ : St) (x : Int) (y : Int) (P : St) (hp : MI P ∧ CI P κ ∧ iR x ∧ iR y ∧ WR P κ ∧ WB κ 4) : MCX (EN en) yX10_setSchedule sX10_setSchedule [.ref (c 0), .int (zI x), .int (zI y)] (fm (cO en c κ)) (fun v w => ∃ κ2 : St, v = some (.int (zI ((sp_setSchedule P x y).2.1))) ∧ w = fm (cO en c κ2) ∧ ((sp_setSchedule P x y).1 = 0) ∧ (CWP (sp_setSchedule P x y).2.2 κ2)) (XP1 en c (sp_setSchedule P x y) P [(1, IAEs)]) := by
  refine MCX.of (EN.stb en) [some (.ref (c 0)), some (.int (zI x)), some (.int (zI y))] 0 rfl rfl rfl (by simp [Value.category]) (Nat.le_of_ble_eq_true rfl) (fun K hK hR hX => ?_)
  obtain ⟨hM, hC, hp⟩ := hp
  have hN4 := hM.2.2.1
  obtain ⟨hr_x, hr_y, hW, hW4⟩ := hp
  have hCW : CWP P κ := ⟨hC, hW, hW4⟩
  unfold iR at hr_x
  unfold iR at hr_y
  refine V_iload_n dX10_setSchedule_0 rfl ?_
  refine V_iload_n dX10_setSchedule_1 rfl ?_
  refine V_callXSE (As := [.int (zI x), .int (zI y)]) hK (k_requireWeights en x y (⟨hr_x, hr_y⟩)) mokX10_requireWeights w778 w779 ⟨Nat.le_of_ble_eq_true rfl, Nat.le_of_ble_eq_true rfl⟩ rfl (Nat.le_of_ble_eq_true rfl) ⟨Nat.le_of_ble_eq_true rfl, Nat.le_of_ble_eq_true rfl⟩ dX10_setSchedule_2 hX (fun X w h => XP1.of (gd_f h.2.2) h.1 (by decide) rfl hCW) (Nat.le_of_ble_eq_true rfl) (Nat.le_of_ble_eq_true rfl) (fun v w p_1 => ?_)
  obtain ⟨rfl, rfl, q_2⟩ := p_1
  show V K sX10_setSchedule 2 12 (fm (cO en c κ)) [some (.ref (c 0)), some (.int (zI x)), some (.int (zI y))] [] 5
  refine V_aload_n dX10_setSchedule_5 rfl ?_
  refine V_iload_n dX10_setSchedule_6 rfl ?_
  refine VO_putf (C0 := RX10) (T := TX10) (N := 9) (ci := 9) (fs := cwF c κ) 0 7 iwX10 (by decide) w240 (Or.inl rfl) tyX10 tyX10_ok nmX10 rfl rfl (at_cw) (Nat.le_of_ble_eq_true rfl) rfl rfl dX10_setSchedule_7 (st_cw_rowWeight x) ?_
  refine V_aload_n dX10_setSchedule_10 rfl ?_
  refine V_iload_n dX10_setSchedule_11 rfl ?_
  refine VO_putf (C0 := RX10) (T := TX10) (N := 9) (ci := 9) (fs := cwF c (up κ 0 11 x)) 0 8 iwX10 (by decide) w241 (Or.inl rfl) tyX10 tyX10_ok nmX10 rfl rfl (at_cw) (Nat.le_of_ble_eq_true rfl) rfl rfl dX10_setSchedule_12 (st_cw_columnWeight y) ?_
  refine V_aload_n dX10_setSchedule_15 rfl ?_
  refine VO_callVF (As := []) (b := c 0) (i := 0) (ci := 9) (fs := cwF c (up (up κ 0 11 x) 0 12 y)) (T := TX10) (N := 9) (at_cw) rfl hK (k_isAllowed en c (up (up κ 0 11 x) 0 12 y) (up (up P 0 11 x) 0 12 y) ⟨hM.sched q_2.1 q_2.2, ci_sched hC x y, hW, hW4⟩) mokX10_isAllowed w781 w262 w263 ⟨Nat.le_of_ble_eq_true rfl, Nat.le_of_ble_eq_true rfl⟩ rfl (Nat.le_of_ble_eq_true rfl) ⟨Nat.le_of_ble_eq_true rfl, Nat.le_of_ble_eq_true rfl⟩ dX10_setSchedule_16 (fun v w p_3 => ?_)
  obtain ⟨κ_4, rfl, rfl, q_5, q_6⟩ := p_3
  show V K sX10_setSchedule 2 12 (fm (cO en c κ_4)) [some (.ref (c 0)), some (.int (zI x)), some (.int (zI y))] [.int (zI ((sp_isAllowed (up (up P 0 11 x) 0 12 y)).2.1))] 19
  refine V_zret hR rfl (Nat.le_of_ble_eq_true rfl) (Nat.le_of_ble_eq_true rfl) dX10_setSchedule_19 ?_
  exact pubC (sp := sp_setSchedule P x y) (gd_t q_2) rfl q_6
set_option maxRecDepth 100000 in
set_option maxHeartbeats 4000000 in
theorem k_setOffset (en : Nat → Nat) (c : Nat → Nat) (κ : St) (s : Int) (x : Int) (P : St) (hp : MI P ∧ CI P κ ∧ iR s ∧ iR x ∧ WR P κ ∧ WB κ 4) : MCX (EN en) yX10_setOffset sX10_setOffset [.ref (c 0), .int (zI s), .int (zI x)] (fm (cO en c κ)) (fun v w => ∃ κ2 : St, v = some (.int (zI ((sp_setOffset P s x).2.1))) ∧ w = fm (cO en c κ2) ∧ ((sp_setOffset P s x).1 = 0) ∧ (CWP (sp_setOffset P s x).2.2 κ2)) (XP1 en c (sp_setOffset P s x) P [(1, IOBs), (2, IAEs)]) := by
  refine MCX.of (EN.stb en) [some (.ref (c 0)), some (.int (zI s)), some (.int (zI x))] 0 rfl rfl rfl (by simp [Value.category]) (Nat.le_of_ble_eq_true rfl) (fun K hK hR hX => ?_)
  obtain ⟨hM, hC, hp⟩ := hp
  have hN4 := hM.2.2.1
  obtain ⟨hr_s, hr_x, hW, hW4⟩ := hp
  have hCW : CWP P κ := ⟨hC, hW, hW4⟩
  unfold iR at hr_s
  unfold iR at hr_x
  refine V_aload_n dX10_setOffset_0 rfl ?_
  refine V_iload_n dX10_setOffset_1 rfl ?_
  refine VO_callXVF (As := [.int (zI s)]) (b := c 0) (i := 0) (ci := 9) (fs := cwF c κ) (T := TX10) (N := 9) (at_cw) rfl hK (k_requireStatement en c κ s P ⟨hM, hC, hr_s⟩) mokX10_requireStatement w704 w706 wps1_1 ⟨Nat.le_of_ble_eq_true rfl, Nat.le_of_ble_eq_true rfl⟩ rfl (Nat.le_of_ble_eq_true rfl) ⟨Nat.le_of_ble_eq_true rfl, Nat.le_of_ble_eq_true rfl⟩ dX10_setOffset_2 hX (fun X w h => XP1.of (gd_f h.2.2) h.1 (by decide) h.2.1 hCW) (Nat.le_of_ble_eq_true rfl) (Nat.le_of_ble_eq_true rfl) (fun v w p_1 => ?_)
  obtain ⟨rfl, rfl, q_2⟩ := p_1
  show V K sX10_setOffset 1 6 (fm (cO en c κ)) [some (.ref (c 0)), some (.int (zI s)), some (.int (zI x))] [] 5
  refine V_iload_n dX10_setOffset_5 rfl ?_
  refine V_iconst dX10_setOffset_6 ?_
  refine V_bipush dX10_setOffset_7 (by decide) ?_
  refine V_callXSE (As := [.int (zI x), .int (zI 0), .int (zI 30)]) hK (k_requireRange en x 0 30 (⟨hr_x, ⟨by omega, by omega⟩, ⟨by omega, by omega⟩⟩)) mokX10_requireRange w517 w518 ⟨Nat.le_of_ble_eq_true rfl, Nat.le_of_ble_eq_true rfl⟩ rfl (Nat.le_of_ble_eq_true rfl) ⟨Nat.le_of_ble_eq_true rfl, Nat.le_of_ble_eq_true rfl⟩ dX10_setOffset_9 hX (fun X w h => XP1.of ((gd_t q_2).trans (gd_f h.2.2)) h.1 (by decide) rfl hCW) (Nat.le_of_ble_eq_true rfl) (Nat.le_of_ble_eq_true rfl) (fun v w p_3 => ?_)
  obtain ⟨rfl, rfl, q_4⟩ := p_3
  show V K sX10_setOffset 2 12 (fm (cO en c κ)) [some (.ref (c 0)), some (.int (zI s)), some (.int (zI x))] [] 12
  refine V_aload_n dX10_setOffset_12 rfl ?_
  refine VO_getf (C0 := RX10) (T := TX10) (N := 9) (ci := 9) (fs := cwF c κ) 0 0 iwX10 (by decide) w233 (Or.inl rfl) rfl (at_cw) rfl dX10_setOffset_13 ?_
  refine VO_getN (C0 := RX5) (T := TX5) (N := 4) (ci := 4) (fs := prF c κ) 1 0 iwX5 (by decide) hK wn69 rfl (at_pr) rfl dX10_setOffset_16 ?_
  show V K sX10_setOffset 2 12 (fm (cO en c κ)) [some (.ref (c 0)), some (.int (zI s)), some (.int (zI x))] [.ref (c (35 + 8 * Int.toNat 4))] 19
  refine V_iload_n dX10_setOffset_19 rfl ?_
  refine VO_callVF (As := [.int (zI s)]) (b := c (35 + 8 * Int.toNat 4)) (i := 35 + 8 * Int.toNat 4) (ci := 0) (fs := alF en c κ 4) (T := TJx4a65c) (N := 3) (at_al (CI.w4 _)) rfl hK (k_get4 en c κ s P ⟨hM, hC, by first | assumption | omega | exact ⟨by omega, by omega⟩ | exact ⟨⟨by omega, by omega⟩, by omega, by omega⟩ | exact ⟨⟨by omega, by omega⟩, ⟨by omega, by omega⟩⟩ | exact ⟨⟨by omega, by omega⟩, ⟨by omega, by omega⟩, by omega, by omega⟩⟩) mokJx4a65c_get_915e3 w390 w274 w275 ⟨Nat.le_of_ble_eq_true rfl, Nat.le_of_ble_eq_true rfl⟩ rfl (Nat.le_of_ble_eq_true rfl) ⟨Nat.le_of_ble_eq_true rfl, Nat.le_of_ble_eq_true rfl⟩ dX10_setOffset_20 (fun v w p_5 => ?_)
  obtain ⟨rfl, rfl⟩ := p_5
  show V K sX10_setOffset 2 12 (fm (cO en c κ)) [some (.ref (c 0)), some (.int (zI s)), some (.int (zI x))] [.ref (c (33 + 8 * Int.toNat s))] 23
  refine VO_castS (33 + 8 * Int.toNat s) (at_sm ((hC).sm hM (by omega))) rfl w391 dX10_setOffset_23 ?_
  refine V_iload_n dX10_setOffset_26 rfl ?_
  refine VO_putN (C0 := RX7) (T := TX7) (N := 5) (ci := 6) (fs := smF c κ s) (33 + 8 * Int.toNat s) 3 iwX7 (by decide) hK wn625 tyX7 tyX7_ok nmX7 rfl rfl (at_sm ((hC).sm hM (by omega))) (Nat.le_of_ble_eq_true rfl) rfl rfl dX10_setOffset_27 (st_sm_offset x ((hC).sm hM (by omega))) ?_
  refine V_aload_n dX10_setOffset_30 rfl ?_
  refine VO_callVF (As := []) (b := c 0) (i := 0) (ci := 9) (fs := cwF c (up κ 10 s x)) (T := TX10) (N := 9) (at_cw) rfl hK (k_isAllowed en c (up κ 10 s x) (up P 10 s x) ⟨hM.offset q_2 q_4, ci_off hC s x, hW, hW4⟩) mokX10_isAllowed w781 w262 w263 ⟨Nat.le_of_ble_eq_true rfl, Nat.le_of_ble_eq_true rfl⟩ rfl (Nat.le_of_ble_eq_true rfl) ⟨Nat.le_of_ble_eq_true rfl, Nat.le_of_ble_eq_true rfl⟩ dX10_setOffset_31 (fun v w p_6 => ?_)
  obtain ⟨κ_7, rfl, rfl, q_8, q_9⟩ := p_6
  show V K sX10_setOffset 2 12 (fm (cO en c κ_7)) [some (.ref (c 0)), some (.int (zI s)), some (.int (zI x))] [.int (zI ((sp_isAllowed (up P 10 s x)).2.1))] 34
  refine V_zret hR rfl (Nat.le_of_ble_eq_true rfl) (Nat.le_of_ble_eq_true rfl) dX10_setOffset_34 ?_
  exact pubC (sp := sp_setOffset P s x) ((gd_t q_2).trans (gd_t q_4)) rfl q_9
set_option maxRecDepth 100000 in
set_option maxHeartbeats 4000000 in
theorem k_setField (en : Nat → Nat) (c : Nat → Nat) (κ : St) (x : Int) (y : Int) (P : St) (hp : MI P ∧ CI P κ ∧ iR x ∧ iR y ∧ WR P κ ∧ WB κ 4) : MCX (EN en) yX10_setField sX10_setField [.ref (c 0), .int (zI x), .int (zI y)] (fm (cO en c κ)) (fun v w => ∃ κ2 : St, v = some (.int (zI ((sp_setField P x y).2.1))) ∧ w = fm (cO en c κ2) ∧ ((sp_setField P x y).1 = 0) ∧ (CWP (sp_setField P x y).2.2 κ2)) (XP1 en c (sp_setField P x y) P [(1, IAEs)]) := by
  refine MCX.of (EN.stb en) [some (.ref (c 0)), some (.int (zI x)), some (.int (zI y))] 0 rfl rfl rfl (by simp [Value.category]) (Nat.le_of_ble_eq_true rfl) (fun K hK hR hX => ?_)
  obtain ⟨hM, hC, hp⟩ := hp
  have hN4 := hM.2.2.1
  obtain ⟨hr_x, hr_y, hW, hW4⟩ := hp
  have hCW : CWP P κ := ⟨hC, hW, hW4⟩
  unfold iR at hr_x
  unfold iR at hr_y
  refine V_iload_n dX10_setField_0 rfl ?_
  refine V_iconst dX10_setField_1 ?_
  refine V_bipush dX10_setField_2 (by decide) ?_
  refine V_callXSE (As := [.int (zI x), .int (zI 1), .int (zI 8)]) hK (k_requireRange en x 1 8 (⟨hr_x, ⟨by omega, by omega⟩, ⟨by omega, by omega⟩⟩)) mokX10_requireRange w517 w518 ⟨Nat.le_of_ble_eq_true rfl, Nat.le_of_ble_eq_true rfl⟩ rfl (Nat.le_of_ble_eq_true rfl) ⟨Nat.le_of_ble_eq_true rfl, Nat.le_of_ble_eq_true rfl⟩ dX10_setField_4 hX (fun X w h => XP1.of (gd_f (fun z => h.2.2 z.1)) h.1 (by decide) rfl hCW) (Nat.le_of_ble_eq_true rfl) (Nat.le_of_ble_eq_true rfl) (fun v w p_1 => ?_)
  obtain ⟨rfl, rfl, q_2⟩ := p_1
  show V K sX10_setField 1 6 (fm (cO en c κ)) [some (.ref (c 0)), some (.int (zI x)), some (.int (zI y))] [] 7
  refine V_iload_n dX10_setField_7 rfl ?_
  refine V_iconst dX10_setField_8 ?_
  refine V_bipush dX10_setField_9 (by decide) ?_
  refine V_callXSE (As := [.int (zI y), .int (zI 1), .int (zI 8)]) hK (k_requireRange en y 1 8 (⟨hr_y, ⟨by omega, by omega⟩, ⟨by omega, by omega⟩⟩)) mokX10_requireRange w517 w518 ⟨Nat.le_of_ble_eq_true rfl, Nat.le_of_ble_eq_true rfl⟩ rfl (Nat.le_of_ble_eq_true rfl) ⟨Nat.le_of_ble_eq_true rfl, Nat.le_of_ble_eq_true rfl⟩ dX10_setField_11 hX (fun X w h => XP1.of (gd_f (fun z => h.2.2 z.2)) h.1 (by decide) rfl hCW) (Nat.le_of_ble_eq_true rfl) (Nat.le_of_ble_eq_true rfl) (fun v w p_3 => ?_)
  obtain ⟨rfl, rfl, q_4⟩ := p_3
  show V K sX10_setField 2 12 (fm (cO en c κ)) [some (.ref (c 0)), some (.int (zI x)), some (.int (zI y))] [] 14
  refine V_aload_n dX10_setField_14 rfl ?_
  refine VO_getf (C0 := RX10) (T := TX10) (N := 9) (ci := 9) (fs := cwF c κ) 0 0 iwX10 (by decide) w233 (Or.inl rfl) rfl (at_cw) rfl dX10_setField_15 ?_
  refine V_iload_n dX10_setField_18 rfl ?_
  refine V_iload_n dX10_setField_19 rfl ?_
  refine VO_callVF (As := [.int (zI x), .int (zI y)]) (b := c 1) (i := 1) (ci := 4) (fs := prF c κ) (T := TX5) (N := 4) (at_pr) rfl hK (k_w5_spread en c κ x y) mokX5_spread w770 w771 w772 ⟨Nat.le_of_ble_eq_true rfl, Nat.le_of_ble_eq_true rfl⟩ rfl (Nat.le_of_ble_eq_true rfl) ⟨Nat.le_of_ble_eq_true rfl, Nat.le_of_ble_eq_true rfl⟩ dX10_setField_20 (fun v w p_5 => ?_)
  obtain ⟨rfl, rfl⟩ := p_5
  show V K sX10_setField 2 12 (fm (cO en c (up (up (up κ 0 0 x) 0 1 y) 49 0 (x * y)))) [some (.ref (c 0)), some (.int (zI x)), some (.int (zI y))] [] 23
  refine V_aload_n dX10_setField_23 rfl ?_
  refine VO_getf (C0 := RX10) (T := TX10) (N := 9) (ci := 9) (fs := cwF c (up (up (up κ 0 0 x) 0 1 y) 49 0 (x * y))) 0 0 iwX10 (by decide) w233 (Or.inl rfl) rfl (at_cw) rfl dX10_setField_24 ?_
  refine VO_getN (C0 := RX5) (T := TX5) (N := 4) (ci := 4) (fs := prF c (up (up (up κ 0 0 x) 0 1 y) 49 0 (x * y))) 1 3 iwX5 (by decide) hK wn81 rfl (at_pr) rfl dX10_setField_27 ?_
  refine V_iret hR rfl (Nat.le_of_ble_eq_true rfl) (Nat.le_of_ble_eq_true rfl) dX10_setField_30 ?_
  exact pubC (sp := sp_setField P x y) (gd_t ⟨q_2, q_4⟩) rfl ⟨ci_field hC x y, hW, hW4⟩
set_option maxRecDepth 100000 in
set_option maxHeartbeats 4000000 in
theorem k_setLasting (en : Nat → Nat) (c : Nat → Nat) (κ : St) (s : Int) (x : Int) (P : St) (hp : MI P ∧ CI P κ ∧ iR s ∧ (x = 0 ∨ x = 1) ∧ WR P κ ∧ WB κ 4) : MCX (EN en) yX10_setLasting sX10_setLasting [.ref (c 0), .int (zI s), .int (zI x)] (fm (cO en c κ)) (fun v w => ∃ κ2 : St, v = some (.int (zI ((sp_setLasting P s x).2.1))) ∧ w = fm (cO en c κ2) ∧ ((sp_setLasting P s x).1 = 0) ∧ (CWP (sp_setLasting P s x).2.2 κ2)) (XP1 en c (sp_setLasting P s x) P [(1, IOBs)]) := by
  refine MCX.of (EN.stb en) [some (.ref (c 0)), some (.int (zI s)), some (.int (zI x)), none, none] 2 rfl rfl rfl (by simp [Value.category]) (Nat.le_of_ble_eq_true rfl) (fun K hK hR hX => ?_)
  obtain ⟨hM, hC, hp⟩ := hp
  have hN4 := hM.2.2.1
  obtain ⟨hr_0, hr_1, hW, hW4⟩ := hp
  have hCW : CWP P κ := ⟨hC, hW, hW4⟩
  have hr_s := hr_0
  have hx := hr_1
  refine V_aload_n dX10_setLasting_0 rfl ?_
  refine V_iload_n dX10_setLasting_1 rfl ?_
  refine VO_callXVF (As := [.int (zI s)]) (b := c 0) (i := 0) (ci := 9) (fs := cwF c κ) (T := TX10) (N := 9) (at_cw) rfl hK (k_requireStatement en c κ s P ⟨hM, hC, hr_s⟩) mokX10_requireStatement w704 w706 wps1_1 ⟨Nat.le_of_ble_eq_true rfl, Nat.le_of_ble_eq_true rfl⟩ rfl (Nat.le_of_ble_eq_true rfl) ⟨Nat.le_of_ble_eq_true rfl, Nat.le_of_ble_eq_true rfl⟩ dX10_setLasting_2 hX (fun X w h => XP1.of (gd_f h.2.2) h.1 (by decide) h.2.1 hCW) (Nat.le_of_ble_eq_true rfl) (Nat.le_of_ble_eq_true rfl) (fun v w p_1 => ?_)
  obtain ⟨rfl, rfl, q_2⟩ := p_1
  show V K sX10_setLasting 1 6 (fm (cO en c κ)) [some (.ref (c 0)), some (.int (zI s)), some (.int (zI x)), none, none] [] 5
  refine V_aload_n dX10_setLasting_5 rfl ?_
  refine VO_getf (C0 := RX10) (T := TX10) (N := 9) (ci := 9) (fs := cwF c κ) 0 0 iwX10 (by decide) w233 (Or.inl rfl) rfl (at_cw) rfl dX10_setLasting_6 ?_
  refine VO_getN (C0 := RX5) (T := TX5) (N := 4) (ci := 4) (fs := prF c κ) 1 0 iwX5 (by decide) hK wn69 rfl (at_pr) rfl dX10_setLasting_9 ?_
  show V K sX10_setLasting 1 6 (fm (cO en c κ)) [some (.ref (c 0)), some (.int (zI s)), some (.int (zI x)), none, none] [.ref (c (35 + 8 * Int.toNat 4))] 12
  refine V_iload_n dX10_setLasting_12 rfl ?_
  refine VO_callVF (As := [.int (zI s)]) (b := c (35 + 8 * Int.toNat 4)) (i := 35 + 8 * Int.toNat 4) (ci := 0) (fs := alF en c κ 4) (T := TJx4a65c) (N := 3) (at_al (CI.w4 _)) rfl hK (k_get4 en c κ s P ⟨hM, hC, by first | assumption | omega | exact ⟨by omega, by omega⟩ | exact ⟨⟨by omega, by omega⟩, by omega, by omega⟩ | exact ⟨⟨by omega, by omega⟩, ⟨by omega, by omega⟩⟩ | exact ⟨⟨by omega, by omega⟩, ⟨by omega, by omega⟩, by omega, by omega⟩⟩) mokJx4a65c_get_915e3 w390 w274 w275 ⟨Nat.le_of_ble_eq_true rfl, Nat.le_of_ble_eq_true rfl⟩ rfl (Nat.le_of_ble_eq_true rfl) ⟨Nat.le_of_ble_eq_true rfl, Nat.le_of_ble_eq_true rfl⟩ dX10_setLasting_13 (fun v w p_3 => ?_)
  obtain ⟨rfl, rfl⟩ := p_3
  show V K sX10_setLasting 1 6 (fm (cO en c κ)) [some (.ref (c 0)), some (.int (zI s)), some (.int (zI x)), none, none] [.ref (c (33 + 8 * Int.toNat s))] 16
  refine VO_castS (33 + 8 * Int.toNat s) (at_sm ((hC).sm hM (by omega))) rfl w391 dX10_setLasting_16 ?_
  refine V_astore_n (L' := [some (.ref (c 0)), some (.int (zI s)), some (.int (zI x)), some (.ref (c (33 + 8 * Int.toNat s))), none]) dX10_setLasting_19 (by decide) rfl ?_
  have h9 := (hM.2.2.2.2.2.1 s q_2.1 (by omega)).2.2.1
  refine V_aload_n dX10_setLasting_20 rfl ?_
  refine VO_getN (C0 := RX7) (T := TX7) (N := 5) (ci := 6) (fs := smF c κ s) (33 + 8 * Int.toNat s) 4 iwX7 (by decide) hK wn628 rfl (at_sm ((hC).sm hM (by omega))) rfl dX10_setLasting_21 ?_
  refine V_eqT (y := zI (P 9 s)) (congrArg zI (congrFun ((hC).1 9 (by decide) (by decide)) _)) ?_
  refine V_istore (L' := [some (.ref (c 0)), some (.int (zI s)), some (.int (zI x)), some (.ref (c (33 + 8 * Int.toNat s))), some (.int (zI (P 9 s)))]) dX10_setLasting_24 (by decide) rfl ?_
  refine V_aload_n dX10_setLasting_26 rfl ?_
  refine V_iload_n dX10_setLasting_27 rfl ?_
  refine VO_putN (C0 := RX7) (T := TX7) (N := 5) (ci := 6) (fs := smF c κ s) (33 + 8 * Int.toNat s) 4 iwX7 (by decide) hK wn628 tyX7 tyX7_ok nmX7 rfl rfl (at_sm ((hC).sm hM (by omega))) (Nat.le_of_ble_eq_true rfl) (nar_z hx) (fit_z hx) dX10_setLasting_28 (st_sm_lasting x ((hC).sm hM (by omega))) ?_
  refine V_iload dX10_setLasting_31 rfl ?_
  refine V_zretI hR rfl (h9) (Nat.le_of_ble_eq_true rfl) (Nat.le_of_ble_eq_true rfl) dX10_setLasting_33 ?_
  exact pubC (sp := sp_setLasting P s x) (gd_t q_2) rfl ⟨ci_last hC s x, hW, hW4⟩

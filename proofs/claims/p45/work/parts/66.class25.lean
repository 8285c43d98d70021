/-! the class: windows kept -/
theorem ci_kp {P κ : St} (h : CI P κ) (s k a b : Int) : CI (kp P s k a b) (kp κ s k a b) := ⟨h.1.kp s k a b, h.2.1, h.2.2⟩
theorem wr_kp {P κ κ' : St} (h : WR P κ) {s k a b : Int} (hf : frW s κ κ') (h1 : (κ' 39 s = k ∧ (k = 1 → κ' 40 s = a) ∧ (k = 2 → κ' 41 s = a ∧ κ' 42 s = b) ∧ (k = 3 → κ' 43 s = a ∧ κ' 40 s = b)) ∧ WB κ' s) : WR (kp P s k a b) (kp κ' s k a b) := by
  intro t ht htn
  by_cases e : t = s
  · rw [e]
    refine ⟨?_, h1.2⟩
    rw [kp_13, kp_14, kp_15, if_pos rfl, if_pos rfl, if_pos rfl]
    exact h1.1
  · obtain ⟨h2, h3⟩ := h t ht htn
    refine ⟨?_, (show WB κ' t from h3.frW hf e)⟩
    rw [kp_13, kp_14, kp_15, if_neg e, if_neg e, if_neg e]
    show κ' 39 t = _ ∧ (_ → κ' 40 t = _) ∧ (_ → κ' 41 t = _ ∧ κ' 42 t = _) ∧ (_ → κ' 43 t = _ ∧ κ' 40 t = _)
    rw [hf 39 t (by omega), hf 40 t (by omega), hf 41 t (by omega), hf 42 t (by omega), hf 43 t (by omega)]
    exact h2
set_option maxRecDepth 100000 in
set_option maxHeartbeats 4000000 in
theorem k_keepWhole (en : Nat → Nat) (c : Nat → Nat) (κ : St) (s : Int) (P : St) (hp : MI P ∧ CI P κ ∧ iR s ∧ WR P κ ∧ WB κ 4) : MCX (EN en) yX10_keepWhole sX10_keepWhole [.ref (c 0), .int (zI s)] (fm (cO en c κ)) (fun v w => ∃ κ2 : St, v = some (.int (zI ((sp_keepWhole P s).2.1))) ∧ w = fm (cO en c κ2) ∧ ((sp_keepWhole P s).1 = 0) ∧ (CWP (sp_keepWhole P s).2.2 κ2)) (XP1 en c (sp_keepWhole P s) P [(1, IOBs)]) := by
  refine MCX.of (EN.stb en) [some (.ref (c 0)), some (.int (zI s))] 0 rfl rfl rfl (by simp [Value.category]) (Nat.le_of_ble_eq_true rfl) (fun K hK hR hX => ?_)
  obtain ⟨hM, hC, hp⟩ := hp
  have hN4 := hM.2.2.1
  obtain ⟨hr_s, hW, hW4⟩ := hp
  have hCW : CWP P κ := ⟨hC, hW, hW4⟩
  unfold iR at hr_s
  refine V_aload_n dX10_keepWhole_0 rfl ?_
  refine V_iload_n dX10_keepWhole_1 rfl ?_
  refine VO_callXVF (As := [.int (zI s)]) (b := c 0) (i := 0) (ci := 9) (fs := cwF c κ) (T := TX10) (N := 9) (at_cw) rfl hK (k_requireStatement en c κ s P ⟨hM, hC, hr_s⟩) mokX10_requireStatement w704 w706 wps1_1 ⟨Nat.le_of_ble_eq_true rfl, Nat.le_of_ble_eq_true rfl⟩ rfl (Nat.le_of_ble_eq_true rfl) ⟨Nat.le_of_ble_eq_true rfl, Nat.le_of_ble_eq_true rfl⟩ dX10_keepWhole_2 hX (fun X w h => XP1.of (gd_f h.2.2) h.1 (by decide) h.2.1 hCW) (Nat.le_of_ble_eq_true rfl) (Nat.le_of_ble_eq_true rfl) (fun v w p_1 => ?_)
  obtain ⟨rfl, rfl, q_2⟩ := p_1
  show V K sX10_keepWhole 1 6 (fm (cO en c κ)) [some (.ref (c 0)), some (.int (zI s))] [] 5
  refine V_aload_n dX10_keepWhole_5 rfl ?_
  refine VO_getf (C0 := RX10) (T := TX10) (N := 9) (ci := 9) (fs := cwF c κ) 0 0 iwX10 (by decide) w233 (Or.inl rfl) rfl (at_cw) rfl dX10_keepWhole_6 ?_
  refine VO_getN (C0 := RX5) (T := TX5) (N := 4) (ci := 4) (fs := prF c κ) 1 0 iwX5 (by decide) hK wn69 rfl (at_pr) rfl dX10_keepWhole_9 ?_
  show V K sX10_keepWhole 1 6 (fm (cO en c κ)) [some (.ref (c 0)), some (.int (zI s))] [.ref (c (35 + 8 * Int.toNat 4))] 12
  refine V_iload_n dX10_keepWhole_12 rfl ?_
  refine VO_callVF (As := [.int (zI s)]) (b := c (35 + 8 * Int.toNat 4)) (i := 35 + 8 * Int.toNat 4) (ci := 0) (fs := alF en c κ 4) (T := TJx4a65c) (N := 3) (at_al (CI.w4 _)) rfl hK (k_get4 en c κ s P ⟨hM, hC, by first | assumption | omega | exact ⟨by omega, by omega⟩ | exact ⟨⟨by omega, by omega⟩, by omega, by omega⟩ | exact ⟨⟨by omega, by omega⟩, ⟨by omega, by omega⟩⟩ | exact ⟨⟨by omega, by omega⟩, ⟨by omega, by omega⟩, by omega, by omega⟩⟩) mokJx4a65c_get_915e3 w390 w274 w275 ⟨Nat.le_of_ble_eq_true rfl, Nat.le_of_ble_eq_true rfl⟩ rfl (Nat.le_of_ble_eq_true rfl) ⟨Nat.le_of_ble_eq_true rfl, Nat.le_of_ble_eq_true rfl⟩ dX10_keepWhole_13 (fun v w p_3 => ?_)
  obtain ⟨rfl, rfl⟩ := p_3
  show V K sX10_keepWhole 1 6 (fm (cO en c κ)) [some (.ref (c 0)), some (.int (zI s))] [.ref (c (33 + 8 * Int.toNat s))] 16
  refine VO_castS (33 + 8 * Int.toNat s) (at_sm ((hC).sm hM (by omega))) rfl w391 dX10_keepWhole_16 ?_
  refine VO_getN (C0 := RX7) (T := TX7) (N := 5) (ci := 6) (fs := smF c κ s) (33 + 8 * Int.toNat s) 2 iwX7 (by decide) hK wn622 rfl (at_sm ((hC).sm hM (by omega))) rfl dX10_keepWhole_19 ?_
  refine VO_callVF (As := []) (b := c (34 + 8 * Int.toNat s)) (i := 34 + 8 * Int.toNat s) (ci := 7) (fs := wnF en κ s) (T := TX8) (N := 5) (at_wn ((hC).wn hM (by omega))) rfl hK (k_w8_becomeWhole en c κ s (hC.wn hM q_2)) mokX8_becomeWhole w396 w397 w398 ⟨Nat.le_of_ble_eq_true rfl, Nat.le_of_ble_eq_true rfl⟩ rfl (Nat.le_of_ble_eq_true rfl) ⟨Nat.le_of_ble_eq_true rfl, Nat.le_of_ble_eq_true rfl⟩ dX10_keepWhole_22 (fun v w p_4 => ?_)
  obtain ⟨rfl, rfl⟩ := p_4
  show V K sX10_keepWhole 1 6 (fm (cO en c (up κ 39 s ((0 : Nat) : Int)))) [some (.ref (c 0)), some (.int (zI s))] [] 25
  show V K sX10_keepWhole 1 6 (fm (cO en c (kp (up κ 39 s ((0 : Nat) : Int)) s 0 0 0))) [some (.ref (c 0)), some (.int (zI s))] [] 25
  refine V_aload_n dX10_keepWhole_25 rfl ?_
  have hfw : frW s κ (up κ 39 s ((0 : Nat) : Int)) := (frW.rf s κ).upd (by decide)
  have hwb : WB (up κ 39 s ((0 : Nat) : Int)) s := (hW s q_2.1 q_2.2).2.whole
  have hwr : WR (kp P s 0 0 0) (kp (up κ 39 s ((0 : Nat) : Int)) s 0 0 0) := wr_kp hW hfw ⟨⟨fup_eq _ _ _, fun z => by omega, fun z => by omega, fun z => by omega⟩, hwb⟩
  have hs4 : (4 : Int) ≠ s := by have := q_2.2; omega
  have hb4 : WB (up κ 39 s ((0 : Nat) : Int)) 4 := WB.frW hW4 hfw hs4
  refine V_iload_n dX10_keepWhole_26 rfl ?_
  refine VO_callVF (As := [.int (zI s)]) (b := c 0) (i := 0) (ci := 9) (fs := cwF c (kp (up κ 39 s ((0 : Nat) : Int)) s 0 0 0)) (T := TX10) (N := 9) (at_cw) rfl hK (k_placesOf en c (kp (up κ 39 s ((0 : Nat) : Int)) s 0 0 0) s (kp P s 0 0 0) ⟨hM.kp (Or.inl rfl), (ci_kp ((hC).up (by decide)) s 0 0 0), q_2, hwr⟩) mokX10_placesOf w465 w467 wps0_10 ⟨Nat.le_of_ble_eq_true rfl, Nat.le_of_ble_eq_true rfl⟩ rfl (Nat.le_of_ble_eq_true rfl) ⟨Nat.le_of_ble_eq_true rfl, Nat.le_of_ble_eq_true rfl⟩ dX10_keepWhole_27 (fun v w p_5 => ?_)
  obtain ⟨rfl, rfl⟩ := p_5
  show V K sX10_keepWhole 1 6 (fm (cO en c (kp (up κ 39 s ((0 : Nat) : Int)) s 0 0 0))) [some (.ref (c 0)), some (.int (zI s))] [.int (zI (sz (kp P s 0 0 0) s))] 30
  refine V_iret hR rfl (Nat.le_of_ble_eq_true rfl) (Nat.le_of_ble_eq_true rfl) dX10_keepWhole_30 ?_
  exact pubC (sp := sp_keepWhole P s) (gd_t q_2) rfl ⟨(ci_kp ((hC).up (by decide)) s 0 0 0), hwr, hb4⟩
set_option maxRecDepth 100000 in
set_option maxHeartbeats 4000000 in
theorem k_keepRest (en : Nat → Nat) (c : Nat → Nat) (κ : St) (s : Int) (x : Int) (P : St) (hp : MI P ∧ CI P κ ∧ iR s ∧ iR x ∧ WR P κ ∧ WB κ 4) : MCX (EN en) yX10_keepRest sX10_keepRest [.ref (c 0), .int (zI s), .int (zI x)] (fm (cO en c κ)) (fun v w => ∃ κ2 : St, v = some (.int (zI ((sp_keepRest P s x).2.1))) ∧ w = fm (cO en c κ2) ∧ ((sp_keepRest P s x).1 = 0) ∧ (CWP (sp_keepRest P s x).2.2 κ2)) (XP1 en c (sp_keepRest P s x) P [(1, IOBs), (2, IAEs)]) := by
  refine MCX.of (EN.stb en) [some (.ref (c 0)), some (.int (zI s)), some (.int (zI x))] 0 rfl rfl rfl (by simp [Value.category]) (Nat.le_of_ble_eq_true rfl) (fun K hK hR hX => ?_)
  obtain ⟨hM, hC, hp⟩ := hp
  have hN4 := hM.2.2.1
  obtain ⟨hr_s, hr_x, hW, hW4⟩ := hp
  have hCW : CWP P κ := ⟨hC, hW, hW4⟩
  unfold iR at hr_s
  unfold iR at hr_x
  refine V_aload_n dX10_keepRest_0 rfl ?_
  refine V_iload_n dX10_keepRest_1 rfl ?_
  refine VO_callXVF (As := [.int (zI s)]) (b := c 0) (i := 0) (ci := 9) (fs := cwF c κ) (T := TX10) (N := 9) (at_cw) rfl hK (k_requireStatement en c κ s P ⟨hM, hC, hr_s⟩) mokX10_requireStatement w704 w706 wps1_1 ⟨Nat.le_of_ble_eq_true rfl, Nat.le_of_ble_eq_true rfl⟩ rfl (Nat.le_of_ble_eq_true rfl) ⟨Nat.le_of_ble_eq_true rfl, Nat.le_of_ble_eq_true rfl⟩ dX10_keepRest_2 hX (fun X w h => XP1.of (gd_f h.2.2) h.1 (by decide) h.2.1 hCW) (Nat.le_of_ble_eq_true rfl) (Nat.le_of_ble_eq_true rfl) (fun v w p_1 => ?_)
  obtain ⟨rfl, rfl, q_2⟩ := p_1
  show V K sX10_keepRest 1 6 (fm (cO en c κ)) [some (.ref (c 0)), some (.int (zI s)), some (.int (zI x))] [] 5
  refine V_iload_n dX10_keepRest_5 rfl ?_
  refine V_iconst dX10_keepRest_6 ?_
  refine V_bipush dX10_keepRest_7 (by decide) ?_
  refine V_callXSE (As := [.int (zI x), .int (zI 1), .int (zI 99)]) hK (k_requireRange en x 1 99 (⟨hr_x, ⟨by omega, by omega⟩, ⟨by omega, by omega⟩⟩)) mokX10_requireRange w517 w518 ⟨Nat.le_of_ble_eq_true rfl, Nat.le_of_ble_eq_true rfl⟩ rfl (Nat.le_of_ble_eq_true rfl) ⟨Nat.le_of_ble_eq_true rfl, Nat.le_of_ble_eq_true rfl⟩ dX10_keepRest_9 hX (fun X w h => XP1.of ((gd_t q_2).trans (gd_f h.2.2)) h.1 (by decide) rfl hCW) (Nat.le_of_ble_eq_true rfl) (Nat.le_of_ble_eq_true rfl) (fun v w p_3 => ?_)
  obtain ⟨rfl, rfl, q_4⟩ := p_3
  show V K sX10_keepRest 2 12 (fm (cO en c κ)) [some (.ref (c 0)), some (.int (zI s)), some (.int (zI x))] [] 12
  refine V_aload_n dX10_keepRest_12 rfl ?_
  refine VO_getf (C0 := RX10) (T := TX10) (N := 9) (ci := 9) (fs := cwF c κ) 0 0 iwX10 (by decide) w233 (Or.inl rfl) rfl (at_cw) rfl dX10_keepRest_13 ?_
  refine VO_getN (C0 := RX5) (T := TX5) (N := 4) (ci := 4) (fs := prF c κ) 1 0 iwX5 (by decide) hK wn69 rfl (at_pr) rfl dX10_keepRest_16 ?_
  show V K sX10_keepRest 2 12 (fm (cO en c κ)) [some (.ref (c 0)), some (.int (zI s)), some (.int (zI x))] [.ref (c (35 + 8 * Int.toNat 4))] 19
  refine V_iload_n dX10_keepRest_19 rfl ?_
  refine VO_callVF (As := [.int (zI s)]) (b := c (35 + 8 * Int.toNat 4)) (i := 35 + 8 * Int.toNat 4) (ci := 0) (fs := alF en c κ 4) (T := TJx4a65c) (N := 3) (at_al (CI.w4 _)) rfl hK (k_get4 en c κ s P ⟨hM, hC, by first | assumption | omega | exact ⟨by omega, by omega⟩ | exact ⟨⟨by omega, by omega⟩, by omega, by omega⟩ | exact ⟨⟨by omega, by omega⟩, ⟨by omega, by omega⟩⟩ | exact ⟨⟨by omega, by omega⟩, ⟨by omega, by omega⟩, by omega, by omega⟩⟩) mokJx4a65c_get_915e3 w390 w274 w275 ⟨Nat.le_of_ble_eq_true rfl, Nat.le_of_ble_eq_true rfl⟩ rfl (Nat.le_of_ble_eq_true rfl) ⟨Nat.le_of_ble_eq_true rfl, Nat.le_of_ble_eq_true rfl⟩ dX10_keepRest_20 (fun v w p_5 => ?_)
  obtain ⟨rfl, rfl⟩ := p_5
  show V K sX10_keepRest 2 12 (fm (cO en c κ)) [some (.ref (c 0)), some (.int (zI s)), some (.int (zI x))] [.ref (c (33 + 8 * Int.toNat s))] 23
  refine VO_castS (33 + 8 * Int.toNat s) (at_sm ((hC).sm hM (by omega))) rfl w391 dX10_keepRest_23 ?_
  refine VO_getN (C0 := RX7) (T := TX7) (N := 5) (ci := 6) (fs := smF c κ s) (33 + 8 * Int.toNat s) 2 iwX7 (by decide) hK wn622 rfl (at_sm ((hC).sm hM (by omega))) rfl dX10_keepRest_26 ?_
  refine V_iload_n dX10_keepRest_29 rfl ?_
  refine VO_callVF (As := [.int (zI x)]) (b := c (34 + 8 * Int.toNat s)) (i := 34 + 8 * Int.toNat s) (ci := 7) (fs := wnF en κ s) (T := TX8) (N := 5) (at_wn ((hC).wn hM (by omega))) rfl hK (k_w8_becomeRest en c κ s x (hC.wn hM q_2)) mokX8_becomeRest w790 w405 w406 ⟨Nat.le_of_ble_eq_true rfl, Nat.le_of_ble_eq_true rfl⟩ rfl (Nat.le_of_ble_eq_true rfl) ⟨Nat.le_of_ble_eq_true rfl, Nat.le_of_ble_eq_true rfl⟩ dX10_keepRest_30 (fun v w p_6 => ?_)
  obtain ⟨rfl, rfl⟩ := p_6
  show V K sX10_keepRest 2 12 (fm (cO en c (up (up κ 39 s ((1 : Nat) : Int)) 40 s x))) [some (.ref (c 0)), some (.int (zI s)), some (.int (zI x))] [] 33
  show V K sX10_keepRest 2 12 (fm (cO en c (kp (up (up κ 39 s ((1 : Nat) : Int)) 40 s x) s 1 x 0))) [some (.ref (c 0)), some (.int (zI s)), some (.int (zI x))] [] 33
  refine V_aload_n dX10_keepRest_33 rfl ?_
  have hfw : frW s κ (up (up κ 39 s ((1 : Nat) : Int)) 40 s x) := ((frW.rf s κ).upd (by decide)).upd (by decide)
  have hwb : WB (up (up κ 39 s ((1 : Nat) : Int)) 40 s x) s := (hW s q_2.1 q_2.2).2.rest q_4
  have hwr : WR (kp P s 1 x 0) (kp (up (up κ 39 s ((1 : Nat) : Int)) 40 s x) s 1 x 0) := wr_kp hW hfw ⟨⟨fup_eq _ _ _, fun _ => fup_eq _ _ _, fun z => by omega, fun z => by omega⟩, hwb⟩
  have hs4 : (4 : Int) ≠ s := by have := q_2.2; omega
  have hb4 : WB (up (up κ 39 s ((1 : Nat) : Int)) 40 s x) 4 := WB.frW hW4 hfw hs4
  refine V_iload_n dX10_keepRest_34 rfl ?_
  refine VO_callVF (As := [.int (zI s)]) (b := c 0) (i := 0) (ci := 9) (fs := cwF c (kp (up (up κ 39 s ((1 : Nat) : Int)) 40 s x) s 1 x 0)) (T := TX10) (N := 9) (at_cw) rfl hK (k_placesOf en c (kp (up (up κ 39 s ((1 : Nat) : Int)) 40 s x) s 1 x 0) s (kp P s 1 x 0) ⟨hM.kp (Or.inr (Or.inl ⟨rfl, q_4⟩)), (ci_kp ((((hC).up (by decide))).up (by decide)) s 1 x 0), q_2, hwr⟩) mokX10_placesOf w465 w467 wps0_10 ⟨Nat.le_of_ble_eq_true rfl, Nat.le_of_ble_eq_true rfl⟩ rfl (Nat.le_of_ble_eq_true rfl) ⟨Nat.le_of_ble_eq_true rfl, Nat.le_of_ble_eq_true rfl⟩ dX10_keepRest_35 (fun v w p_7 => ?_)
  obtain ⟨rfl, rfl⟩ := p_7
  show V K sX10_keepRest 2 12 (fm (cO en c (kp (up (up κ 39 s ((1 : Nat) : Int)) 40 s x) s 1 x 0))) [some (.ref (c 0)), some (.int (zI s)), some (.int (zI x))] [.int (zI (sz (kp P s 1 x 0) s))] 38
  refine V_iret hR rfl (Nat.le_of_ble_eq_true rfl) (Nat.le_of_ble_eq_true rfl) dX10_keepRest_38 ?_
  exact pubC (sp := sp_keepRest P s x) ((gd_t q_2).trans (gd_t q_4)) rfl ⟨(ci_kp ((((hC).up (by decide))).up (by decide)) s 1 x 0), hwr, hb4⟩
set_option maxRecDepth 100000 in
set_option maxHeartbeats 4000000 in
theorem k_keepTwoRests (en : Nat → Nat) (c : Nat → Nat) (κ : St) (s : Int) (x : Int) (y : Int) (P : St) (hp : MI P ∧ CI P κ ∧ iR s ∧ iR x ∧ iR y ∧ WR P κ ∧ WB κ 4) : MCX (EN en) yX10_keepTwoRests sX10_keepTwoRests [.ref (c 0), .int (zI s), .int (zI x), .int (zI y)] (fm (cO en c κ)) (fun v w => ∃ κ2 : St, v = some (.int (zI ((sp_keepTwoRests P s x y).2.1))) ∧ w = fm (cO en c κ2) ∧ ((sp_keepTwoRests P s x y).1 = 0) ∧ (CWP (sp_keepTwoRests P s x y).2.2 κ2)) (XP1 en c (sp_keepTwoRests P s x y) P [(1, IOBs), (2, IAEs)]) := by
  refine MCX.of (EN.stb en) [some (.ref (c 0)), some (.int (zI s)), some (.int (zI x)), some (.int (zI y))] 0 rfl rfl rfl (by simp [Value.category]) (Nat.le_of_ble_eq_true rfl) (fun K hK hR hX => ?_)
  obtain ⟨hM, hC, hp⟩ := hp
  have hN4 := hM.2.2.1
  obtain ⟨hr_s, hr_x, hr_y, hW, hW4⟩ := hp
  have hCW : CWP P κ := ⟨hC, hW, hW4⟩
  unfold iR at hr_s
  unfold iR at hr_x
  unfold iR at hr_y
  refine V_aload_n dX10_keepTwoRests_0 rfl ?_
  refine V_iload_n dX10_keepTwoRests_1 rfl ?_
  refine VO_callXVF (As := [.int (zI s)]) (b := c 0) (i := 0) (ci := 9) (fs := cwF c κ) (T := TX10) (N := 9) (at_cw) rfl hK (k_requireStatement en c κ s P ⟨hM, hC, hr_s⟩) mokX10_requireStatement w704 w706 wps1_1 ⟨Nat.le_of_ble_eq_true rfl, Nat.le_of_ble_eq_true rfl⟩ rfl (Nat.le_of_ble_eq_true rfl) ⟨Nat.le_of_ble_eq_true rfl, Nat.le_of_ble_eq_true rfl⟩ dX10_keepTwoRests_2 hX (fun X w h => XP1.of (gd_f h.2.2) h.1 (by decide) h.2.1 hCW) (Nat.le_of_ble_eq_true rfl) (Nat.le_of_ble_eq_true rfl) (fun v w p_1 => ?_)
  obtain ⟨rfl, rfl, q_2⟩ := p_1
  show V K sX10_keepTwoRests 1 6 (fm (cO en c κ)) [some (.ref (c 0)), some (.int (zI s)), some (.int (zI x)), some (.int (zI y))] [] 5
  refine V_iload_n dX10_keepTwoRests_5 rfl ?_
  refine V_iconst dX10_keepTwoRests_6 ?_
  refine V_bipush dX10_keepTwoRests_7 (by decide) ?_
  refine V_callXSE (As := [.int (zI x), .int (zI 1), .int (zI 99)]) hK (k_requireRange en x 1 99 (⟨hr_x, ⟨by omega, by omega⟩, ⟨by omega, by omega⟩⟩)) mokX10_requireRange w517 w518 ⟨Nat.le_of_ble_eq_true rfl, Nat.le_of_ble_eq_true rfl⟩ rfl (Nat.le_of_ble_eq_true rfl) ⟨Nat.le_of_ble_eq_true rfl, Nat.le_of_ble_eq_true rfl⟩ dX10_keepTwoRests_9 hX (fun X w h => XP1.of ((gd_t q_2).trans (gd_f (fun z => h.2.2 z.1))) h.1 (by decide) rfl hCW) (Nat.le_of_ble_eq_true rfl) (Nat.le_of_ble_eq_true rfl) (fun v w p_3 => ?_)
  obtain ⟨rfl, rfl, q_4⟩ := p_3
  show V K sX10_keepTwoRests 2 12 (fm (cO en c κ)) [some (.ref (c 0)), some (.int (zI s)), some (.int (zI x)), some (.int (zI y))] [] 12
  refine V_iload_n dX10_keepTwoRests_12 rfl ?_
  refine V_iconst dX10_keepTwoRests_13 ?_
  refine V_bipush dX10_keepTwoRests_14 (by decide) ?_
  refine V_callXSE (As := [.int (zI y), .int (zI 1), .int (zI 99)]) hK (k_requireRange en y 1 99 (⟨hr_y, ⟨by omega, by omega⟩, ⟨by omega, by omega⟩⟩)) mokX10_requireRange w517 w518 ⟨Nat.le_of_ble_eq_true rfl, Nat.le_of_ble_eq_true rfl⟩ rfl (Nat.le_of_ble_eq_true rfl) ⟨Nat.le_of_ble_eq_true rfl, Nat.le_of_ble_eq_true rfl⟩ dX10_keepTwoRests_16 hX (fun X w h => XP1.of ((gd_t q_2).trans (gd_f (fun z => h.2.2 z.2))) h.1 (by decide) rfl hCW) (Nat.le_of_ble_eq_true rfl) (Nat.le_of_ble_eq_true rfl) (fun v w p_5 => ?_)
  obtain ⟨rfl, rfl, q_6⟩ := p_5
  show V K sX10_keepTwoRests 3 18 (fm (cO en c κ)) [some (.ref (c 0)), some (.int (zI s)), some (.int (zI x)), some (.int (zI y))] [] 19
  refine V_aload_n dX10_keepTwoRests_19 rfl ?_
  refine VO_getf (C0 := RX10) (T := TX10) (N := 9) (ci := 9) (fs := cwF c κ) 0 0 iwX10 (by decide) w233 (Or.inl rfl) rfl (at_cw) rfl dX10_keepTwoRests_20 ?_
  refine VO_getN (C0 := RX5) (T := TX5) (N := 4) (ci := 4) (fs := prF c κ) 1 0 iwX5 (by decide) hK wn69 rfl (at_pr) rfl dX10_keepTwoRests_23 ?_
  show V K sX10_keepTwoRests 3 18 (fm (cO en c κ)) [some (.ref (c 0)), some (.int (zI s)), some (.int (zI x)), some (.int (zI y))] [.ref (c (35 + 8 * Int.toNat 4))] 26
  refine V_iload_n dX10_keepTwoRests_26 rfl ?_
  refine VO_callVF (As := [.int (zI s)]) (b := c (35 + 8 * Int.toNat 4)) (i := 35 + 8 * Int.toNat 4) (ci := 0) (fs := alF en c κ 4) (T := TJx4a65c) (N := 3) (at_al (CI.w4 _)) rfl hK (k_get4 en c κ s P ⟨hM, hC, by first | assumption | omega | exact ⟨by omega, by omega⟩ | exact ⟨⟨by omega, by omega⟩, by omega, by omega⟩ | exact ⟨⟨by omega, by omega⟩, ⟨by omega, by omega⟩⟩ | exact ⟨⟨by omega, by omega⟩, ⟨by omega, by omega⟩, by omega, by omega⟩⟩) mokJx4a65c_get_915e3 w390 w274 w275 ⟨Nat.le_of_ble_eq_true rfl, Nat.le_of_ble_eq_true rfl⟩ rfl (Nat.le_of_ble_eq_true rfl) ⟨Nat.le_of_ble_eq_true rfl, Nat.le_of_ble_eq_true rfl⟩ dX10_keepTwoRests_27 (fun v w p_7 => ?_)
  obtain ⟨rfl, rfl⟩ := p_7
  show V K sX10_keepTwoRests 3 18 (fm (cO en c κ)) [some (.ref (c 0)), some (.int (zI s)), some (.int (zI x)), some (.int (zI y))] [.ref (c (33 + 8 * Int.toNat s))] 30
  refine VO_castS (33 + 8 * Int.toNat s) (at_sm ((hC).sm hM (by omega))) rfl w391 dX10_keepTwoRests_30 ?_
  refine VO_getN (C0 := RX7) (T := TX7) (N := 5) (ci := 6) (fs := smF c κ s) (33 + 8 * Int.toNat s) 2 iwX7 (by decide) hK wn622 rfl (at_sm ((hC).sm hM (by omega))) rfl dX10_keepTwoRests_33 ?_
  refine V_iload_n dX10_keepTwoRests_36 rfl ?_
  refine V_iload_n dX10_keepTwoRests_37 rfl ?_
  refine VO_callVF (As := [.int (zI x), .int (zI y)]) (b := c (34 + 8 * Int.toNat s)) (i := 34 + 8 * Int.toNat s) (ci := 7) (fs := wnF en κ s) (T := TX8) (N := 5) (at_wn ((hC).wn hM (by omega))) rfl hK (k_w8_becomeTwoRests en c κ s x y (hC.wn hM q_2)) mokX8_becomeTwoRests w795 w448 w449 ⟨Nat.le_of_ble_eq_true rfl, Nat.le_of_ble_eq_true rfl⟩ rfl (Nat.le_of_ble_eq_true rfl) ⟨Nat.le_of_ble_eq_true rfl, Nat.le_of_ble_eq_true rfl⟩ dX10_keepTwoRests_38 (fun v w p_8 => ?_)
  obtain ⟨rfl, rfl⟩ := p_8
  show V K sX10_keepTwoRests 3 18 (fm (cO en c (up (up (up κ 39 s ((2 : Nat) : Int)) 41 s x) 42 s y))) [some (.ref (c 0)), some (.int (zI s)), some (.int (zI x)), some (.int (zI y))] [] 41
  show V K sX10_keepTwoRests 3 18 (fm (cO en c (kp (up (up (up κ 39 s ((2 : Nat) : Int)) 41 s x) 42 s y) s 2 x y))) [some (.ref (c 0)), some (.int (zI s)), some (.int (zI x)), some (.int (zI y))] [] 41
  refine V_aload_n dX10_keepTwoRests_41 rfl ?_
  have hfw : frW s κ (up (up (up κ 39 s ((2 : Nat) : Int)) 41 s x) 42 s y) := (((frW.rf s κ).upd (by decide)).upd (by decide)).upd (by decide)
  have hwb : WB (up (up (up κ 39 s ((2 : Nat) : Int)) 41 s x) 42 s y) s := (hW s q_2.1 q_2.2).2.two q_4 q_6
  have hwr : WR (kp P s 2 x y) (kp (up (up (up κ 39 s ((2 : Nat) : Int)) 41 s x) 42 s y) s 2 x y) := wr_kp hW hfw ⟨⟨fup_eq _ _ _, fun z => by omega, fun _ => ⟨fup_eq _ _ _, fup_eq _ _ _⟩, fun z => by omega⟩, hwb⟩
  have hs4 : (4 : Int) ≠ s := by have := q_2.2; omega
  have hb4 : WB (up (up (up κ 39 s ((2 : Nat) : Int)) 41 s x) 42 s y) 4 := WB.frW hW4 hfw hs4
  refine V_iload_n dX10_keepTwoRests_42 rfl ?_
  refine VO_callVF (As := [.int (zI s)]) (b := c 0) (i := 0) (ci := 9) (fs := cwF c (kp (up (up (up κ 39 s ((2 : Nat) : Int)) 41 s x) 42 s y) s 2 x y)) (T := TX10) (N := 9) (at_cw) rfl hK (k_placesOf en c (kp (up (up (up κ 39 s ((2 : Nat) : Int)) 41 s x) 42 s y) s 2 x y) s (kp P s 2 x y) ⟨hM.kp (Or.inr (Or.inr (Or.inl ⟨rfl, q_4.1, q_4.2, q_6⟩))), (ci_kp ((((((hC).up (by decide))).up (by decide))).up (by decide)) s 2 x y), q_2, hwr⟩) mokX10_placesOf w465 w467 wps0_10 ⟨Nat.le_of_ble_eq_true rfl, Nat.le_of_ble_eq_true rfl⟩ rfl (Nat.le_of_ble_eq_true rfl) ⟨Nat.le_of_ble_eq_true rfl, Nat.le_of_ble_eq_true rfl⟩ dX10_keepTwoRests_43 (fun v w p_9 => ?_)
  obtain ⟨rfl, rfl⟩ := p_9
  show V K sX10_keepTwoRests 3 18 (fm (cO en c (kp (up (up (up κ 39 s ((2 : Nat) : Int)) 41 s x) 42 s y) s 2 x y))) [some (.ref (c 0)), some (.int (zI s)), some (.int (zI x)), some (.int (zI y))] [.int (zI (sz (kp P s 2 x y) s))] 46
  refine V_iret hR rfl (Nat.le_of_ble_eq_true rfl) (Nat.le_of_ble_eq_true rfl) dX10_keepTwoRests_46 ?_
  exact pubC (sp := sp_keepTwoRests P s x y) ((gd_t q_2).trans (gd_t ⟨q_4, q_6⟩)) rfl ⟨(ci_kp ((((((hC).up (by decide))).up (by decide))).up (by decide)) s 2 x y), hwr, hb4⟩
set_option maxRecDepth 100000 in
set_option maxHeartbeats 4000000 in
theorem k_keepSlant (en : Nat → Nat) (c : Nat → Nat) (κ : St) (s : Int) (x : Int) (y : Int) (P : St) (hp : MI P ∧ CI P κ ∧ iR s ∧ iR x ∧ iR y ∧ WR P κ ∧ WB κ 4) : MCX (EN en) yX10_keepSlant sX10_keepSlant [.ref (c 0), .int (zI s), .int (zI x), .int (zI y)] (fm (cO en c κ)) (fun v w => ∃ κ2 : St, v = some (.int (zI ((sp_keepSlant P s x y).2.1))) ∧ w = fm (cO en c κ2) ∧ ((sp_keepSlant P s x y).1 = 0) ∧ (CWP (sp_keepSlant P s x y).2.2 κ2)) (XP1 en c (sp_keepSlant P s x y) P [(1, IOBs), (2, IAEs)]) := by
  refine MCX.of (EN.stb en) [some (.ref (c 0)), some (.int (zI s)), some (.int (zI x)), some (.int (zI y))] 0 rfl rfl rfl (by simp [Value.category]) (Nat.le_of_ble_eq_true rfl) (fun K hK hR hX => ?_)
  obtain ⟨hM, hC, hp⟩ := hp
  have hN4 := hM.2.2.1
  obtain ⟨hr_s, hr_x, hr_y, hW, hW4⟩ := hp
  have hCW : CWP P κ := ⟨hC, hW, hW4⟩
  unfold iR at hr_s
  unfold iR at hr_x
  unfold iR at hr_y
  refine V_aload_n dX10_keepSlant_0 rfl ?_
  refine V_iload_n dX10_keepSlant_1 rfl ?_
  refine VO_callXVF (As := [.int (zI s)]) (b := c 0) (i := 0) (ci := 9) (fs := cwF c κ) (T := TX10) (N := 9) (at_cw) rfl hK (k_requireStatement en c κ s P ⟨hM, hC, hr_s⟩) mokX10_requireStatement w704 w706 wps1_1 ⟨Nat.le_of_ble_eq_true rfl, Nat.le_of_ble_eq_true rfl⟩ rfl (Nat.le_of_ble_eq_true rfl) ⟨Nat.le_of_ble_eq_true rfl, Nat.le_of_ble_eq_true rfl⟩ dX10_keepSlant_2 hX (fun X w h => XP1.of (gd_f h.2.2) h.1 (by decide) h.2.1 hCW) (Nat.le_of_ble_eq_true rfl) (Nat.le_of_ble_eq_true rfl) (fun v w p_1 => ?_)
  obtain ⟨rfl, rfl, q_2⟩ := p_1
  show V K sX10_keepSlant 1 6 (fm (cO en c κ)) [some (.ref (c 0)), some (.int (zI s)), some (.int (zI x)), some (.int (zI y))] [] 5
  refine V_iload_n dX10_keepSlant_5 rfl ?_
  refine V_iconst dX10_keepSlant_6 ?_
  refine V_bipush dX10_keepSlant_7 (by decide) ?_
  refine V_callXSE (As := [.int (zI x), .int (zI 0), .int (zI 9)]) hK (k_requireRange en x 0 9 (⟨hr_x, ⟨by omega, by omega⟩, ⟨by omega, by omega⟩⟩)) mokX10_requireRange w517 w518 ⟨Nat.le_of_ble_eq_true rfl, Nat.le_of_ble_eq_true rfl⟩ rfl (Nat.le_of_ble_eq_true rfl) ⟨Nat.le_of_ble_eq_true rfl, Nat.le_of_ble_eq_true rfl⟩ dX10_keepSlant_9 hX (fun X w h => XP1.of ((gd_t q_2).trans (gd_f (fun z => h.2.2 z.1))) h.1 (by decide) rfl hCW) (Nat.le_of_ble_eq_true rfl) (Nat.le_of_ble_eq_true rfl) (fun v w p_3 => ?_)
  obtain ⟨rfl, rfl, q_4⟩ := p_3
  show V K sX10_keepSlant 2 12 (fm (cO en c κ)) [some (.ref (c 0)), some (.int (zI s)), some (.int (zI x)), some (.int (zI y))] [] 12
  refine V_iload_n dX10_keepSlant_12 rfl ?_
  refine V_iconst dX10_keepSlant_13 ?_
  refine V_bipush dX10_keepSlant_14 (by decide) ?_
  refine V_callXSE (As := [.int (zI y), .int (zI 1), .int (zI 99)]) hK (k_requireRange en y 1 99 (⟨hr_y, ⟨by omega, by omega⟩, ⟨by omega, by omega⟩⟩)) mokX10_requireRange w517 w518 ⟨Nat.le_of_ble_eq_true rfl, Nat.le_of_ble_eq_true rfl⟩ rfl (Nat.le_of_ble_eq_true rfl) ⟨Nat.le_of_ble_eq_true rfl, Nat.le_of_ble_eq_true rfl⟩ dX10_keepSlant_16 hX (fun X w h => XP1.of ((gd_t q_2).trans (gd_f (fun z => h.2.2 z.2))) h.1 (by decide) rfl hCW) (Nat.le_of_ble_eq_true rfl) (Nat.le_of_ble_eq_true rfl) (fun v w p_5 => ?_)
  obtain ⟨rfl, rfl, q_6⟩ := p_5
  show V K sX10_keepSlant 3 18 (fm (cO en c κ)) [some (.ref (c 0)), some (.int (zI s)), some (.int (zI x)), some (.int (zI y))] [] 19
  refine V_aload_n dX10_keepSlant_19 rfl ?_
  refine VO_getf (C0 := RX10) (T := TX10) (N := 9) (ci := 9) (fs := cwF c κ) 0 0 iwX10 (by decide) w233 (Or.inl rfl) rfl (at_cw) rfl dX10_keepSlant_20 ?_
  refine VO_getN (C0 := RX5) (T := TX5) (N := 4) (ci := 4) (fs := prF c κ) 1 0 iwX5 (by decide) hK wn69 rfl (at_pr) rfl dX10_keepSlant_23 ?_
  show V K sX10_keepSlant 3 18 (fm (cO en c κ)) [some (.ref (c 0)), some (.int (zI s)), some (.int (zI x)), some (.int (zI y))] [.ref (c (35 + 8 * Int.toNat 4))] 26
  refine V_iload_n dX10_keepSlant_26 rfl ?_
  refine VO_callVF (As := [.int (zI s)]) (b := c (35 + 8 * Int.toNat 4)) (i := 35 + 8 * Int.toNat 4) (ci := 0) (fs := alF en c κ 4) (T := TJx4a65c) (N := 3) (at_al (CI.w4 _)) rfl hK (k_get4 en c κ s P ⟨hM, hC, by first | assumption | omega | exact ⟨by omega, by omega⟩ | exact ⟨⟨by omega, by omega⟩, by omega, by omega⟩ | exact ⟨⟨by omega, by omega⟩, ⟨by omega, by omega⟩⟩ | exact ⟨⟨by omega, by omega⟩, ⟨by omega, by omega⟩, by omega, by omega⟩⟩) mokJx4a65c_get_915e3 w390 w274 w275 ⟨Nat.le_of_ble_eq_true rfl, Nat.le_of_ble_eq_true rfl⟩ rfl (Nat.le_of_ble_eq_true rfl) ⟨Nat.le_of_ble_eq_true rfl, Nat.le_of_ble_eq_true rfl⟩ dX10_keepSlant_27 (fun v w p_7 => ?_)
  obtain ⟨rfl, rfl⟩ := p_7
  show V K sX10_keepSlant 3 18 (fm (cO en c κ)) [some (.ref (c 0)), some (.int (zI s)), some (.int (zI x)), some (.int (zI y))] [.ref (c (33 + 8 * Int.toNat s))] 30
  refine VO_castS (33 + 8 * Int.toNat s) (at_sm ((hC).sm hM (by omega))) rfl w391 dX10_keepSlant_30 ?_
  refine VO_getN (C0 := RX7) (T := TX7) (N := 5) (ci := 6) (fs := smF c κ s) (33 + 8 * Int.toNat s) 2 iwX7 (by decide) hK wn622 rfl (at_sm ((hC).sm hM (by omega))) rfl dX10_keepSlant_33 ?_
  refine V_iload_n dX10_keepSlant_36 rfl ?_
  refine V_iload_n dX10_keepSlant_37 rfl ?_
  refine VO_callVF (As := [.int (zI x), .int (zI y)]) (b := c (34 + 8 * Int.toNat s)) (i := 34 + 8 * Int.toNat s) (ci := 7) (fs := wnF en κ s) (T := TX8) (N := 5) (at_wn ((hC).wn hM (by omega))) rfl hK (k_w8_becomeSlant en c κ s x y (hC.wn hM q_2)) mokX8_becomeSlant w800 w456 w457 ⟨Nat.le_of_ble_eq_true rfl, Nat.le_of_ble_eq_true rfl⟩ rfl (Nat.le_of_ble_eq_true rfl) ⟨Nat.le_of_ble_eq_true rfl, Nat.le_of_ble_eq_true rfl⟩ dX10_keepSlant_38 (fun v w p_8 => ?_)
  obtain ⟨rfl, rfl⟩ := p_8
  show V K sX10_keepSlant 3 18 (fm (cO en c (up (up (up κ 39 s ((3 : Nat) : Int)) 43 s x) 40 s y))) [some (.ref (c 0)), some (.int (zI s)), some (.int (zI x)), some (.int (zI y))] [] 41
  show V K sX10_keepSlant 3 18 (fm (cO en c (kp (up (up (up κ 39 s ((3 : Nat) : Int)) 43 s x) 40 s y) s 3 x y))) [some (.ref (c 0)), some (.int (zI s)), some (.int (zI x)), some (.int (zI y))] [] 41
  refine V_aload_n dX10_keepSlant_41 rfl ?_
  have hfw : frW s κ (up (up (up κ 39 s ((3 : Nat) : Int)) 43 s x) 40 s y) := (((frW.rf s κ).upd (by decide)).upd (by decide)).upd (by decide)
  have hwb : WB (up (up (up κ 39 s ((3 : Nat) : Int)) 43 s x) 40 s y) s := (hW s q_2.1 q_2.2).2.slant q_4 q_6
  have hwr : WR (kp P s 3 x y) (kp (up (up (up κ 39 s ((3 : Nat) : Int)) 43 s x) 40 s y) s 3 x y) := wr_kp hW hfw ⟨⟨fup_eq _ _ _, fun z => by omega, fun z => by omega, fun _ => ⟨fup_eq _ _ _, fup_eq _ _ _⟩⟩, hwb⟩
  have hs4 : (4 : Int) ≠ s := by have := q_2.2; omega
  have hb4 : WB (up (up (up κ 39 s ((3 : Nat) : Int)) 43 s x) 40 s y) 4 := WB.frW hW4 hfw hs4
  refine V_iload_n dX10_keepSlant_42 rfl ?_
  refine VO_callVF (As := [.int (zI s)]) (b := c 0) (i := 0) (ci := 9) (fs := cwF c (kp (up (up (up κ 39 s ((3 : Nat) : Int)) 43 s x) 40 s y) s 3 x y)) (T := TX10) (N := 9) (at_cw) rfl hK (k_placesOf en c (kp (up (up (up κ 39 s ((3 : Nat) : Int)) 43 s x) 40 s y) s 3 x y) s (kp P s 3 x y) ⟨hM.kp (Or.inr (Or.inr (Or.inr ⟨rfl, q_4.1, q_4.2, q_6⟩))), (ci_kp ((((((hC).up (by decide))).up (by decide))).up (by decide)) s 3 x y), q_2, hwr⟩) mokX10_placesOf w465 w467 wps0_10 ⟨Nat.le_of_ble_eq_true rfl, Nat.le_of_ble_eq_true rfl⟩ rfl (Nat.le_of_ble_eq_true rfl) ⟨Nat.le_of_ble_eq_true rfl, Nat.le_of_ble_eq_true rfl⟩ dX10_keepSlant_43 (fun v w p_9 => ?_)
  obtain ⟨rfl, rfl⟩ := p_9
  show V K sX10_keepSlant 3 18 (fm (cO en c (kp (up (up (up κ 39 s ((3 : Nat) : Int)) 43 s x) 40 s y) s 3 x y))) [some (.ref (c 0)), some (.int (zI s)), some (.int (zI x)), some (.int (zI y))] [.int (zI (sz (kp P s 3 x y) s))] 46
  refine V_iret hR rfl (Nat.le_of_ble_eq_true rfl) (Nat.le_of_ble_eq_true rfl) dX10_keepSlant_46 ?_
  exact pubC (sp := sp_keepSlant P s x y) ((gd_t q_2).trans (gd_t ⟨q_4, q_6⟩)) rfl ⟨(ci_kp ((((((hC).up (by decide))).up (by decide))).up (by decide)) s 3 x y), hwr, hb4⟩

/-! the class: public methods, windows and least windows -/
theorem CWP.frW4 {P κ κ2 : St} (h : CWP P κ) (hf : frW 4 κ κ2) (hB : WB κ2 4) (hM : MI P) : CWP P κ2 := by
  refine ⟨h.1.frW hf, fun s a b => ?_, hB⟩
  have h4 : s ≠ 4 := by have := hM.2.2.1; omega
  obtain ⟨h1, h2⟩ := h.2.1 s a b
  refine ⟨?_, h2.frW hf h4⟩
  rw [hf 39 s (by omega), hf 40 s (by omega), hf 41 s (by omega), hf 42 s (by omega), hf 43 s (by omega)]
  exact h1
theorem VB_gD {P : St} (hM : MI P) {bw cw s : Int} : VB P (gD P bw cw s s noD) := by
  intro r d hrd
  obtain ⟨x, y, hxy, rfl, rfl⟩ := gD_iff.mp hrd
  rw [(d_b hM hxy.1 hxy.2.1 hxy.2.2.1).2.2.1]
  have := hM.pts
  have := hxy.1
  have := hxy.2.1
  have := hxy.2.2.1
  omega
theorem ls_ok {P : St} (hM : MI P) (bw cw s : Int) : (10 ≤ ls P bw cw s ∧ ls P bw cw s / 10 ≤ pt P) ∧ sD (gD P bw cw s s noD) (ls P bw cw s % 10) (ls P bw cw s / 10) := by
  obtain ⟨h1, h2⟩ := ls_spec hM bw cw s
  have := h1.1
  have := hM.1
  exact ⟨⟨by omega, by omega⟩, sD_iff.mpr h1.2.1⟩
set_option maxRecDepth 100000 in
set_option maxHeartbeats 4000000 in
theorem k_isReadInOrder (en : Nat → Nat) (c : Nat → Nat) (κ : St) (s : Int) (x : Int) (P : St) (hp : MI P ∧ CI P κ ∧ iR s ∧ iR x ∧ WR P κ ∧ WB κ 4) : MCX (EN en) yX10_isReadInOrder sX10_isReadInOrder [.ref (c 0), .int (zI s), .int (zI x)] (fm (cO en c κ)) (fun v w => ∃ κ2 : St, v = some (.int (zI ((sp_isReadInOrder P s x).2.1))) ∧ w = fm (cO en c κ2) ∧ ((sp_isReadInOrder P s x).1 = 0) ∧ (CWP (sp_isReadInOrder P s x).2.2 κ2)) (XP1 en c (sp_isReadInOrder P s x) P [(1, IOBs)]) := by
  refine MCX.of (EN.stb en) [some (.ref (c 0)), some (.int (zI s)), some (.int (zI x)), none] 1 rfl rfl rfl (by simp [Value.category]) (Nat.le_of_ble_eq_true rfl) (fun K hK hR hX => ?_)
  obtain ⟨hM, hC, hp⟩ := hp
  have hN4 := hM.2.2.1
  obtain ⟨hr_s, hr_x, hW, hW4⟩ := hp
  have hCW : CWP P κ := ⟨hC, hW, hW4⟩
  unfold iR at hr_s
  unfold iR at hr_x
  refine V_aload_n dX10_isReadInOrder_0 rfl ?_
  refine V_iload_n dX10_isReadInOrder_1 rfl ?_
  refine VO_callXVF (As := [.int (zI s)]) (b := c 0) (i := 0) (ci := 9) (fs := cwF c κ) (T := TX10) (N := 9) (at_cw) rfl hK (k_requireStatement en c κ s P ⟨hM, hC, hr_s⟩) mokX10_requireStatement w704 w706 wps1_1 ⟨Nat.le_of_ble_eq_true rfl, Nat.le_of_ble_eq_true rfl⟩ rfl (Nat.le_of_ble_eq_true rfl) ⟨Nat.le_of_ble_eq_true rfl, Nat.le_of_ble_eq_true rfl⟩ dX10_isReadInOrder_2 hX (fun X w h => XP1.of (gd_f (fun z => h.2.2 z.1)) h.1 (by decide) h.2.1 hCW) (Nat.le_of_ble_eq_true rfl) (Nat.le_of_ble_eq_true rfl) (fun v w p_1 => ?_)
  obtain ⟨rfl, rfl, q_2⟩ := p_1
  show V K sX10_isReadInOrder 1 6 (fm (cO en c κ)) [some (.ref (c 0)), some (.int (zI s)), some (.int (zI x)), none] [] 5
  have hr4 := hM.r4 q_2
  refine V_aload_n dX10_isReadInOrder_5 rfl ?_
  refine VO_getf (C0 := RX10) (T := TX10) (N := 9) (ci := 9) (fs := cwF c κ) 0 0 iwX10 (by decide) w233 (Or.inl rfl) rfl (at_cw) rfl dX10_isReadInOrder_6 ?_
  refine VO_getN (C0 := RX5) (T := TX5) (N := 4) (ci := 4) (fs := prF c κ) 1 0 iwX5 (by decide) hK wn69 rfl (at_pr) rfl dX10_isReadInOrder_9 ?_
  show V K sX10_isReadInOrder 1 6 (fm (cO en c κ)) [some (.ref (c 0)), some (.int (zI s)), some (.int (zI x)), none] [.ref (c (35 + 8 * Int.toNat 4))] 12
  refine V_iload_n dX10_isReadInOrder_12 rfl ?_
  refine VO_callVF (As := [.int (zI s)]) (b := c (35 + 8 * Int.toNat 4)) (i := 35 + 8 * Int.toNat 4) (ci := 0) (fs := alF en c κ 4) (T := TJx4a65c) (N := 3) (at_al (CI.w4 _)) rfl hK (k_get4 en c κ s P ⟨hM, hC, by first | assumption | omega | exact ⟨by omega, by omega⟩ | exact ⟨⟨by omega, by omega⟩, by omega, by omega⟩ | exact ⟨⟨by omega, by omega⟩, ⟨by omega, by omega⟩⟩ | exact ⟨⟨by omega, by omega⟩, ⟨by omega, by omega⟩, by omega, by omega⟩⟩) mokJx4a65c_get_915e3 w390 w274 w275 ⟨Nat.le_of_ble_eq_true rfl, Nat.le_of_ble_eq_true rfl⟩ rfl (Nat.le_of_ble_eq_true rfl) ⟨Nat.le_of_ble_eq_true rfl, Nat.le_of_ble_eq_true rfl⟩ dX10_isReadInOrder_13 (fun v w p_3 => ?_)
  obtain ⟨rfl, rfl⟩ := p_3
  show V K sX10_isReadInOrder 1 6 (fm (cO en c κ)) [some (.ref (c 0)), some (.int (zI s)), some (.int (zI x)), none] [.ref (c (33 + 8 * Int.toNat s))] 16
  refine VO_castS (33 + 8 * Int.toNat s) (at_sm ((hC).sm hM (by omega))) rfl w391 dX10_isReadInOrder_16 ?_
  refine VO_getN (C0 := RX7) (T := TX7) (N := 5) (ci := 6) (fs := smF c κ s) (33 + 8 * Int.toNat s) 1 iwX7 (by decide) hK wn616 rfl (at_sm ((hC).sm hM (by omega))) rfl dX10_isReadInOrder_19 ?_
  refine V_astore_n (L' := [some (.ref (c 0)), some (.int (zI s)), some (.int (zI x)), some (.ref (c (35 + 8 * Int.toNat s)))]) dX10_isReadInOrder_22 (by decide) rfl ?_
  refine V_iload_n dX10_isReadInOrder_23 rfl ?_
  refine V_if_lt (tgt := 35) dX10_isReadInOrder_24 (by decide) ⟨by omega, by omega⟩ (fun c_4 => ?_) (fun c_4 => ?_)
  · refine V_throwS2 (i := 6) hK hX (XP1.of (gd_f (fun z => by have := z.2; omega)) rfl (by decide) rfl hCW) rfl (by decide +kernel) (by decide +kernel) w708 w26 hat_IOB hgd_IOB (by decide) rfl dX10_isReadInOrder_35 dX10_isReadInOrder_38 dX10_isReadInOrder_39 dX10_isReadInOrder_41 dX10_isReadInOrder_44 ⟨by decide, by decide⟩ ⟨Nat.le_of_ble_eq_true rfl, Nat.le_of_ble_eq_true rfl⟩ ⟨Nat.le_of_ble_eq_true rfl, Nat.le_of_ble_eq_true rfl⟩
  · refine V_iload_n dX10_isReadInOrder_27 rfl ?_
    refine V_aload_n dX10_isReadInOrder_28 rfl ?_
    refine VO_callVF (As := []) (b := c (35 + 8 * Int.toNat s)) (i := 35 + 8 * Int.toNat s) (ci := 0) (fs := alF en c κ s) (T := TJx4a65c) (N := 3) (at_al ((hC).wn hM (by omega))) rfl hK (k_sizer en c κ s P ⟨hM, hC, by first | assumption | omega | exact ⟨by omega, by omega⟩ | exact ⟨⟨by omega, by omega⟩, by omega, by omega⟩ | exact ⟨⟨by omega, by omega⟩, ⟨by omega, by omega⟩⟩ | exact ⟨⟨by omega, by omega⟩, ⟨by omega, by omega⟩, by omega, by omega⟩⟩) mokJx4a65c_size_8abf5 w364 w270 w271 ⟨Nat.le_of_ble_eq_true rfl, Nat.le_of_ble_eq_true rfl⟩ rfl (Nat.le_of_ble_eq_true rfl) ⟨Nat.le_of_ble_eq_true rfl, Nat.le_of_ble_eq_true rfl⟩ dX10_isReadInOrder_29 (fun v w p_5 => ?_)
    obtain ⟨rfl, rfl⟩ := p_5
    show V K sX10_isReadInOrder 1 6 (fm (cO en c κ)) [some (.ref (c 0)), some (.int (zI s)), some (.int (zI x)), some (.ref (c (35 + 8 * Int.toNat s)))] [.int (zI (P 4 s)), .int (zI x)] 32
    refine V_icmp_lt (tgt := 45) dX10_isReadInOrder_32 (by decide) ⟨⟨by omega, by omega⟩, ⟨by omega, by omega⟩⟩ (fun c_6 => ?_) (fun c_6 => ?_)
    · refine V_aload_n dX10_isReadInOrder_45 rfl ?_
      refine VO_getf (C0 := RX10) (T := TX10) (N := 9) (ci := 9) (fs := cwF c κ) 0 0 iwX10 (by decide) w233 (Or.inl rfl) rfl (at_cw) rfl dX10_isReadInOrder_46 ?_
      refine V_iload_n dX10_isReadInOrder_49 rfl ?_
      refine V_aload_n dX10_isReadInOrder_50 rfl ?_
      refine V_iload_n dX10_isReadInOrder_51 rfl ?_
      refine VO_callVF (As := [.int (zI x)]) (b := c (35 + 8 * Int.toNat s)) (i := 35 + 8 * Int.toNat s) (ci := 0) (fs := alF en c κ s) (T := TJx4a65c) (N := 3) (at_al ((hC).wn hM (by omega))) rfl hK (k_getr en c κ s x P ⟨hM, hC, by first | assumption | omega | exact ⟨by omega, by omega⟩ | exact ⟨⟨by omega, by omega⟩, by omega, by omega⟩ | exact ⟨⟨by omega, by omega⟩, ⟨by omega, by omega⟩⟩ | exact ⟨⟨by omega, by omega⟩, ⟨by omega, by omega⟩, by omega, by omega⟩⟩) mokJx4a65c_get_915e3 w390 w274 w275 ⟨Nat.le_of_ble_eq_true rfl, Nat.le_of_ble_eq_true rfl⟩ rfl (Nat.le_of_ble_eq_true rfl) ⟨Nat.le_of_ble_eq_true rfl, Nat.le_of_ble_eq_true rfl⟩ dX10_isReadInOrder_52 (fun v w p_7 => ?_)
      obtain ⟨rfl, rfl⟩ := p_7
      show V K sX10_isReadInOrder 1 6 (fm (cO en c κ)) [some (.ref (c 0)), some (.int (zI s)), some (.int (zI x)), some (.ref (c (35 + 8 * Int.toNat s)))] [.ref (c (37 + 8 * Int.toNat s + Int.toNat x)), .int (zI s), .ref (c 1)] 55
      refine VO_castS (37 + 8 * Int.toNat s + Int.toNat x) (at_rd ((hC).rd hM (by omega) (by omega))) rfl w725 dX10_isReadInOrder_55 ?_
      refine V_aload_n dX10_isReadInOrder_58 rfl ?_
      refine VO_getf (C0 := RX10) (T := TX10) (N := 9) (ci := 9) (fs := cwF c κ) 0 7 iwX10 (by decide) w240 (Or.inl rfl) rfl (at_cw) rfl dX10_isReadInOrder_59 ?_
      refine V_eqT (y := zI (P 0 11)) (congrArg zI (congrFun ((hC).1 0 (by decide) (by decide)) _)) ?_
      refine V_aload_n dX10_isReadInOrder_62 rfl ?_
      refine VO_getf (C0 := RX10) (T := TX10) (N := 9) (ci := 9) (fs := cwF c κ) 0 8 iwX10 (by decide) w241 (Or.inl rfl) rfl (at_cw) rfl dX10_isReadInOrder_63 ?_
      refine V_eqT (y := zI (P 0 12)) (congrArg zI (congrFun ((hC).1 0 (by decide) (by decide)) _)) ?_
      refine VO_callVF (As := [.int (zI s), .ref (c (37 + 8 * Int.toNat s + Int.toNat x)), .int (zI (P 0 11)), .int (zI (P 0 12))]) (b := c 1) (i := 1) (ci := 4) (fs := prF c κ) (T := TX5) (N := 4) (at_pr) rfl hK (k_w5_comesLater en c κ s x (P 0 11) (P 0 12) P ⟨hM, hC, q_2, ⟨by omega, by omega⟩, hM.2.2.2.1, hM.2.2.2.2.1⟩) mokX5_comesLater w846 w290 w291 ⟨Nat.le_of_ble_eq_true rfl, Nat.le_of_ble_eq_true rfl⟩ rfl (Nat.le_of_ble_eq_true rfl) ⟨Nat.le_of_ble_eq_true rfl, Nat.le_of_ble_eq_true rfl⟩ dX10_isReadInOrder_66 (fun v w p_8 => ?_)
      obtain ⟨rfl, rfl⟩ := p_8
      show V K sX10_isReadInOrder 1 6 (fm (cO en c κ)) [some (.ref (c 0)), some (.int (zI s)), some (.int (zI x)), some (.ref (c (35 + 8 * Int.toNat s)))] [.int (zI (bz (dcd (inO P (P 0 11) (P 0 12) s x))))] 69
      refine V_zret hR rfl (Nat.le_of_ble_eq_true rfl) (Nat.le_of_ble_eq_true rfl) dX10_isReadInOrder_69 ?_
      exact pubC (sp := sp_isReadInOrder P s x) (gd_t ⟨q_2, by omega⟩) rfl hCW
    · refine V_throwS2 (i := 6) hK hX (XP1.of (gd_f (fun z => by have := z.2; omega)) rfl (by decide) rfl hCW) rfl (by decide +kernel) (by decide +kernel) w708 w26 hat_IOB hgd_IOB (by decide) rfl dX10_isReadInOrder_35 dX10_isReadInOrder_38 dX10_isReadInOrder_39 dX10_isReadInOrder_41 dX10_isReadInOrder_44 ⟨by decide, by decide⟩ ⟨Nat.le_of_ble_eq_true rfl, Nat.le_of_ble_eq_true rfl⟩ ⟨Nat.le_of_ble_eq_true rfl, Nat.le_of_ble_eq_true rfl⟩
set_option maxRecDepth 100000 in
set_option maxHeartbeats 4000000 in
theorem k_windowSize (en : Nat → Nat) (c : Nat → Nat) (κ : St) (s : Int) (P : St) (hp : MI P ∧ CI P κ ∧ iR s ∧ WR P κ ∧ WB κ 4) : MCX (EN en) yX10_windowSize sX10_windowSize [.ref (c 0), .int (zI s)] (fm (cO en c κ)) (fun v w => ∃ κ2 : St, v = some (.int (zI ((sp_windowSize P s).2.1))) ∧ w = fm (cO en c κ2) ∧ ((sp_windowSize P s).1 = 0) ∧ (CWP (sp_windowSize P s).2.2 κ2)) (XP1 en c (sp_windowSize P s) P [(1, IOBs)]) := by
  refine MCX.of (EN.stb en) [some (.ref (c 0)), some (.int (zI s))] 0 rfl rfl rfl (by simp [Value.category]) (Nat.le_of_ble_eq_true rfl) (fun K hK hR hX => ?_)
  obtain ⟨hM, hC, hp⟩ := hp
  have hN4 := hM.2.2.1
  obtain ⟨hr_s, hW, hW4⟩ := hp
  have hCW : CWP P κ := ⟨hC, hW, hW4⟩
  unfold iR at hr_s
  refine V_aload_n dX10_windowSize_0 rfl ?_
  refine V_iload_n dX10_windowSize_1 rfl ?_
  refine VO_callXVF (As := [.int (zI s)]) (b := c 0) (i := 0) (ci := 9) (fs := cwF c κ) (T := TX10) (N := 9) (at_cw) rfl hK (k_requireStatement en c κ s P ⟨hM, hC, hr_s⟩) mokX10_requireStatement w704 w706 wps1_1 ⟨Nat.le_of_ble_eq_true rfl, Nat.le_of_ble_eq_true rfl⟩ rfl (Nat.le_of_ble_eq_true rfl) ⟨Nat.le_of_ble_eq_true rfl, Nat.le_of_ble_eq_true rfl⟩ dX10_windowSize_2 hX (fun X w h => XP1.of (gd_f h.2.2) h.1 (by decide) h.2.1 hCW) (Nat.le_of_ble_eq_true rfl) (Nat.le_of_ble_eq_true rfl) (fun v w p_1 => ?_)
  obtain ⟨rfl, rfl, q_2⟩ := p_1
  show V K sX10_windowSize 1 6 (fm (cO en c κ)) [some (.ref (c 0)), some (.int (zI s))] [] 5
  refine V_aload_n dX10_windowSize_5 rfl ?_
  refine V_iload_n dX10_windowSize_6 rfl ?_
  refine VO_callVF (As := [.int (zI s)]) (b := c 0) (i := 0) (ci := 9) (fs := cwF c κ) (T := TX10) (N := 9) (at_cw) rfl hK (k_placesOf en c κ s P ⟨hM, hC, q_2, hW⟩) mokX10_placesOf w465 w467 wps0_10 ⟨Nat.le_of_ble_eq_true rfl, Nat.le_of_ble_eq_true rfl⟩ rfl (Nat.le_of_ble_eq_true rfl) ⟨Nat.le_of_ble_eq_true rfl, Nat.le_of_ble_eq_true rfl⟩ dX10_windowSize_7 (fun v w p_3 => ?_)
  obtain ⟨rfl, rfl⟩ := p_3
  show V K sX10_windowSize 1 6 (fm (cO en c κ)) [some (.ref (c 0)), some (.int (zI s))] [.int (zI (sz P s))] 10
  refine V_iret hR rfl (Nat.le_of_ble_eq_true rfl) (Nat.le_of_ble_eq_true rfl) dX10_windowSize_10 ?_
  exact pubC (sp := sp_windowSize P s) (gd_t q_2) rfl hCW
set_option maxRecDepth 100000 in
set_option maxHeartbeats 4000000 in
theorem k_placeOf (en : Nat → Nat) (c : Nat → Nat) (κ : St) (s : Int) (i : Int) (j : Int) (P : St) (hp : MI P ∧ CI P κ ∧ iR s ∧ iR i ∧ iR j ∧ WR P κ ∧ WB κ 4) : MCX (EN en) yX10_placeOf sX10_placeOf [.ref (c 0), .int (zI s), .int (zI i), .int (zI j)] (fm (cO en c κ)) (fun v w => ∃ κ2 : St, v = some (.int (zI ((sp_placeOf P s i j).2.1))) ∧ w = fm (cO en c κ2) ∧ ((sp_placeOf P s i j).1 = 0) ∧ (CWP (sp_placeOf P s i j).2.2 κ2)) (XP1 en c (sp_placeOf P s i j) P [(1, IOBs)]) := by
  refine MCX.of (EN.stb en) [some (.ref (c 0)), some (.int (zI s)), some (.int (zI i)), some (.int (zI j))] 0 rfl rfl rfl (by simp [Value.category]) (Nat.le_of_ble_eq_true rfl) (fun K hK hR hX => ?_)
  obtain ⟨hM, hC, hp⟩ := hp
  have hN4 := hM.2.2.1
  obtain ⟨hr_s, hr_i, hr_j, hW, hW4⟩ := hp
  have hCW : CWP P κ := ⟨hC, hW, hW4⟩
  unfold iR at hr_s
  unfold iR at hr_i
  unfold iR at hr_j
  refine V_aload_n dX10_placeOf_0 rfl ?_
  refine V_iload_n dX10_placeOf_1 rfl ?_
  refine VO_callXVF (As := [.int (zI s)]) (b := c 0) (i := 0) (ci := 9) (fs := cwF c κ) (T := TX10) (N := 9) (at_cw) rfl hK (k_requireStatement en c κ s P ⟨hM, hC, hr_s⟩) mokX10_requireStatement w704 w706 wps1_1 ⟨Nat.le_of_ble_eq_true rfl, Nat.le_of_ble_eq_true rfl⟩ rfl (Nat.le_of_ble_eq_true rfl) ⟨Nat.le_of_ble_eq_true rfl, Nat.le_of_ble_eq_true rfl⟩ dX10_placeOf_2 hX (fun X w h => XP1.of (gd_f (fun z => h.2.2 z.1)) h.1 (by decide) h.2.1 hCW) (Nat.le_of_ble_eq_true rfl) (Nat.le_of_ble_eq_true rfl) (fun v w p_1 => ?_)
  obtain ⟨rfl, rfl, q_2⟩ := p_1
  show V K sX10_placeOf 1 6 (fm (cO en c κ)) [some (.ref (c 0)), some (.int (zI s)), some (.int (zI i)), some (.int (zI j))] [] 5
  refine V_aload_n dX10_placeOf_5 rfl ?_
  refine V_iload_n dX10_placeOf_6 rfl ?_
  refine V_iload_n dX10_placeOf_7 rfl ?_
  refine VO_callXVF (As := [.int (zI i), .int (zI j)]) (b := c 0) (i := 0) (ci := 9) (fs := cwF c κ) (T := TX10) (N := 9) (at_cw) rfl hK (k_requirePoint en c κ i j P ⟨hM, hC, hr_i, hr_j⟩) mokX10_requirePoint w834 w836 wps1_5 ⟨Nat.le_of_ble_eq_true rfl, Nat.le_of_ble_eq_true rfl⟩ rfl (Nat.le_of_ble_eq_true rfl) ⟨Nat.le_of_ble_eq_true rfl, Nat.le_of_ble_eq_true rfl⟩ dX10_placeOf_8 hX (fun X w h => XP1.of (gd_f (fun z => h.2.2 z.2)) h.1 (by decide) h.2.1 hCW) (Nat.le_of_ble_eq_true rfl) (Nat.le_of_ble_eq_true rfl) (fun v w p_3 => ?_)
  obtain ⟨rfl, rfl, q_4⟩ := p_3
  show V K sX10_placeOf 2 12 (fm (cO en c κ)) [some (.ref (c 0)), some (.int (zI s)), some (.int (zI i)), some (.int (zI j))] [] 11
  have hin := q_4
  obtain ⟨d1, d2, d3, d4⟩ := q_4
  have hm1 := hM.1
  have hm2 := hM.2.1
  refine V_aload_n dX10_placeOf_11 rfl ?_
  refine VO_getf (C0 := RX10) (T := TX10) (N := 9) (ci := 9) (fs := cwF c κ) 0 0 iwX10 (by decide) w233 (Or.inl rfl) rfl (at_cw) rfl dX10_placeOf_12 ?_
  refine VO_getN (C0 := RX5) (T := TX5) (N := 4) (ci := 4) (fs := prF c κ) 1 0 iwX5 (by decide) hK wn69 rfl (at_pr) rfl dX10_placeOf_15 ?_
  show V K sX10_placeOf 2 12 (fm (cO en c κ)) [some (.ref (c 0)), some (.int (zI s)), some (.int (zI i)), some (.int (zI j))] [.ref (c (35 + 8 * Int.toNat 4))] 18
  refine V_iload_n dX10_placeOf_18 rfl ?_
  refine VO_callVF (As := [.int (zI s)]) (b := c (35 + 8 * Int.toNat 4)) (i := 35 + 8 * Int.toNat 4) (ci := 0) (fs := alF en c κ 4) (T := TJx4a65c) (N := 3) (at_al (CI.w4 _)) rfl hK (k_get4 en c κ s P ⟨hM, hC, by first | assumption | omega | exact ⟨by omega, by omega⟩ | exact ⟨⟨by omega, by omega⟩, by omega, by omega⟩ | exact ⟨⟨by omega, by omega⟩, ⟨by omega, by omega⟩⟩ | exact ⟨⟨by omega, by omega⟩, ⟨by omega, by omega⟩, by omega, by omega⟩⟩) mokJx4a65c_get_915e3 w390 w274 w275 ⟨Nat.le_of_ble_eq_true rfl, Nat.le_of_ble_eq_true rfl⟩ rfl (Nat.le_of_ble_eq_true rfl) ⟨Nat.le_of_ble_eq_true rfl, Nat.le_of_ble_eq_true rfl⟩ dX10_placeOf_19 (fun v w p_5 => ?_)
  obtain ⟨rfl, rfl⟩ := p_5
  show V K sX10_placeOf 2 12 (fm (cO en c κ)) [some (.ref (c 0)), some (.int (zI s)), some (.int (zI i)), some (.int (zI j))] [.ref (c (33 + 8 * Int.toNat s))] 22
  refine VO_castS (33 + 8 * Int.toNat s) (at_sm ((hC).sm hM (by omega))) rfl w391 dX10_placeOf_22 ?_
  refine VO_getN (C0 := RX7) (T := TX7) (N := 5) (ci := 6) (fs := smF c κ s) (33 + 8 * Int.toNat s) 2 iwX7 (by decide) hK wn622 rfl (at_sm ((hC).sm hM (by omega))) rfl dX10_placeOf_25 ?_
  refine V_iload_n dX10_placeOf_28 rfl ?_
  refine V_iload_n dX10_placeOf_29 rfl ?_
  refine V_aload_n dX10_placeOf_30 rfl ?_
  refine VO_getf (C0 := RX10) (T := TX10) (N := 9) (ci := 9) (fs := cwF c κ) 0 0 iwX10 (by decide) w233 (Or.inl rfl) rfl (at_cw) rfl dX10_placeOf_31 ?_
  refine VO_getN (C0 := RX5) (T := TX5) (N := 4) (ci := 4) (fs := prF c κ) 1 2 iwX5 (by decide) hK wn79 rfl (at_pr) rfl dX10_placeOf_34 ?_
  refine V_eqT (y := zI (P 0 1)) (congrArg zI (congrFun ((hC).1 0 (by decide) (by decide)) _)) ?_
  refine VO_callVF (As := [.int (zI i), .int (zI j), .int (zI (P 0 1))]) (b := c (34 + 8 * Int.toNat s)) (i := 34 + 8 * Int.toNat s) (ci := 7) (fs := wnF en κ s) (T := TX8) (N := 5) (at_wn ((hC).wn hM (by omega))) rfl hK (k_w8_placeFor en c κ s i j (P 0 1) (⟨hC.wn hM q_2, (hW s q_2.1 q_2.2).2, ⟨by omega, by omega⟩, ⟨by omega, by omega⟩, hM.2.1⟩)) mokX8_placeFor w936 w500 w501 ⟨Nat.le_of_ble_eq_true rfl, Nat.le_of_ble_eq_true rfl⟩ rfl (Nat.le_of_ble_eq_true rfl) ⟨Nat.le_of_ble_eq_true rfl, Nat.le_of_ble_eq_true rfl⟩ dX10_placeOf_37 (fun v w p_6 => ?_)
  obtain ⟨rfl, rfl⟩ := p_6
  show V K sX10_placeOf 2 12 (fm (cO en c κ)) [some (.ref (c 0)), some (.int (zI s)), some (.int (zI i)), some (.int (zI j))] [.int (zI (wpl κ s i j (P 0 1)))] 40
  refine V_iret hR rfl (Nat.le_of_ble_eq_true rfl) (Nat.le_of_ble_eq_true rfl) dX10_placeOf_40 ?_
  exact pubC (sp := sp_placeOf P s i j) (gd_t ⟨q_2, hin⟩) (ziE (wpl_plc hM q_2 (hW s q_2.1 q_2.2) hin)) hCW
set_option maxRecDepth 100000 in
set_option maxHeartbeats 4000000 in
theorem k_leastRest (en : Nat → Nat) (c : Nat → Nat) (κ : St) (s : Int) (P : St) (hp : MI P ∧ CI P κ ∧ iR s ∧ WR P κ ∧ WB κ 4) : MCX (EN en) yX10_leastRest sX10_leastRest [.ref (c 0), .int (zI s)] (fm (cO en c κ)) (fun v w => ∃ κ2 : St, v = some (.int (zI ((sp_leastRest P s).2.1))) ∧ w = fm (cO en c κ2) ∧ ((sp_leastRest P s).1 = 0) ∧ (CWP (sp_leastRest P s).2.2 κ2)) (XP1 en c (sp_leastRest P s) P [(1, IOBs)]) := by
  refine MCX.of (EN.stb en) [some (.ref (c 0)), some (.int (zI s))] 0 rfl rfl rfl (by simp [Value.category]) (Nat.le_of_ble_eq_true rfl) (fun K hK hR hX => ?_)
  obtain ⟨hM, hC, hp⟩ := hp
  have hN4 := hM.2.2.1
  obtain ⟨hr_s, hW, hW4⟩ := hp
  have hCW : CWP P κ := ⟨hC, hW, hW4⟩
  unfold iR at hr_s
  refine V_aload_n dX10_leastRest_0 rfl ?_
  refine V_iload_n dX10_leastRest_1 rfl ?_
  refine VO_callXVF (As := [.int (zI s)]) (b := c 0) (i := 0) (ci := 9) (fs := cwF c κ) (T := TX10) (N := 9) (at_cw) rfl hK (k_requireStatement en c κ s P ⟨hM, hC, hr_s⟩) mokX10_requireStatement w704 w706 wps1_1 ⟨Nat.le_of_ble_eq_true rfl, Nat.le_of_ble_eq_true rfl⟩ rfl (Nat.le_of_ble_eq_true rfl) ⟨Nat.le_of_ble_eq_true rfl, Nat.le_of_ble_eq_true rfl⟩ dX10_leastRest_2 hX (fun X w h => XP1.of (gd_f h.2.2) h.1 (by decide) h.2.1 hCW) (Nat.le_of_ble_eq_true rfl) (Nat.le_of_ble_eq_true rfl) (fun v w p_1 => ?_)
  obtain ⟨rfl, rfl, q_2⟩ := p_1
  show V K sX10_leastRest 1 6 (fm (cO en c κ)) [some (.ref (c 0)), some (.int (zI s))] [] 5
  refine V_aload_n dX10_leastRest_5 rfl ?_
  refine VO_callVF (As := []) (b := c 0) (i := 0) (ci := 9) (fs := cwF c κ) (T := TX10) (N := 9) (at_cw) rfl hK (k_arranged en c κ P ⟨hM, hC⟩) mokX10_arranged w312 w314 wps0_0 ⟨Nat.le_of_ble_eq_true rfl, Nat.le_of_ble_eq_true rfl⟩ rfl (Nat.le_of_ble_eq_true rfl) ⟨Nat.le_of_ble_eq_true rfl, Nat.le_of_ble_eq_true rfl⟩ dX10_leastRest_6 (fun v w p_3 => ?_)
  obtain ⟨κ_4, rfl, rfl, q_5, q_6, q_7⟩ := p_3
  show V K sX10_leastRest 1 6 (fm (cO en c κ_4)) [some (.ref (c 0)), some (.int (zI s))] [.ref (c 2)] 9
  refine V_pop dX10_leastRest_9 rfl ?_
  refine V_aload_n dX10_leastRest_10 rfl ?_
  refine V_iload_n dX10_leastRest_11 rfl ?_
  refine VO_callVF (As := [.int (zI s)]) (b := c 0) (i := 0) (ci := 9) (fs := cwF c κ_4) (T := TX10) (N := 9) (at_cw) rfl hK (k_gatherDifferences en c κ_4 s P (P 0 11) (P 0 12) ⟨hM, q_5, q_6, q_2⟩) mokX10_gatherDifferences w365 w367 wps0_5 ⟨Nat.le_of_ble_eq_true rfl, Nat.le_of_ble_eq_true rfl⟩ rfl (Nat.le_of_ble_eq_true rfl) ⟨Nat.le_of_ble_eq_true rfl, Nat.le_of_ble_eq_true rfl⟩ dX10_leastRest_12 (fun v w p_8 => ?_)
  obtain ⟨κ_9, rfl, rfl, q_10, q_11, q_12⟩ := p_8
  show V K sX10_leastRest 1 6 (fm (cO en c κ_9)) [some (.ref (c 0)), some (.int (zI s))] [] 15
  have hCh := (hCW.fr q_7 (by decide)).fr q_12 (by decide)
  refine V_aload_n dX10_leastRest_15 rfl ?_
  refine VO_getf (C0 := RX10) (T := TX10) (N := 9) (ci := 9) (fs := cwF c κ_9) 0 2 iwX10 (by decide) w235 (Or.inl rfl) rfl (at_cw) rfl dX10_leastRest_16 ?_
  refine V_aload_n dX10_leastRest_19 rfl ?_
  refine VO_getf (C0 := RX10) (T := TX10) (N := 9) (ci := 9) (fs := cwF c κ_9) 0 3 iwX10 (by decide) w236 (Or.inl rfl) rfl (at_cw) rfl dX10_leastRest_20 ?_
  show V K sX10_leastRest 1 6 (fm (cO en c κ_9)) [some (.ref (c 0)), some (.int (zI s))] [.ref (c (34 + 8 * Int.toNat 4)), .ref (c 12)] 23
  refine VO_callVF (As := [.ref (c (34 + 8 * Int.toNat 4))]) (b := c 12) (i := 12) (ci := 2) (fs := dfF c κ_9) (T := TX2) (N := 7) (at_df) rfl hK (k_w2_leastRestModulus en c κ_9 4 P (gD P (P 0 11) (P 0 12) s s noD) ⟨hM, q_10, q_11, CI.w4 _, hCh.2.2⟩) mokX2_leastRestModulus w400 w401 w402 ⟨Nat.le_of_ble_eq_true rfl, Nat.le_of_ble_eq_true rfl⟩ rfl (Nat.le_of_ble_eq_true rfl) ⟨Nat.le_of_ble_eq_true rfl, Nat.le_of_ble_eq_true rfl⟩ dX10_leastRest_23 (fun v w p_13 => ?_)
  obtain ⟨r_14, κ_15, rfl, rfl, q_16, q_17, q_18, q_19⟩ := p_13
  show V K sX10_leastRest 1 6 (fm (cO en c κ_15)) [some (.ref (c 0)), some (.int (zI s))] [.int (zI r_14)] 26
  refine V_iret hR rfl (Nat.le_of_ble_eq_true rfl) (Nat.le_of_ble_eq_true rfl) dX10_leastRest_26 ?_
  exact pubC (sp := sp_leastRest P s) (gd_t q_2) (ziE (LRs.lr hM q_19).1) (hCh.frW4 q_17 q_18 hM)
set_option maxRecDepth 100000 in
set_option maxHeartbeats 4000000 in
theorem k_leastRestByDifferences (en : Nat → Nat) (c : Nat → Nat) (κ : St) (s : Int) (P : St) (hp : MI P ∧ CI P κ ∧ iR s ∧ WR P κ ∧ WB κ 4) : MCX (EN en) yX10_leastRestByDifferences sX10_leastRestByDifferences [.ref (c 0), .int (zI s)] (fm (cO en c κ)) (fun v w => ∃ κ2 : St, v = some (.int (zI ((sp_leastRest P s).2.1))) ∧ w = fm (cO en c κ2) ∧ ((sp_leastRest P s).1 = 0) ∧ (CWP (sp_leastRest P s).2.2 κ2)) (XP1 en c (sp_leastRest P s) P [(1, IOBs)]) := by
  refine MCX.of (EN.stb en) [some (.ref (c 0)), some (.int (zI s))] 0 rfl rfl rfl (by simp [Value.category]) (Nat.le_of_ble_eq_true rfl) (fun K hK hR hX => ?_)
  obtain ⟨hM, hC, hp⟩ := hp
  have hN4 := hM.2.2.1
  obtain ⟨hr_s, hW, hW4⟩ := hp
  have hCW : CWP P κ := ⟨hC, hW, hW4⟩
  unfold iR at hr_s
  refine V_aload_n dX10_leastRestByDifferences_0 rfl ?_
  refine V_iload_n dX10_leastRestByDifferences_1 rfl ?_
  refine VO_callXVF (As := [.int (zI s)]) (b := c 0) (i := 0) (ci := 9) (fs := cwF c κ) (T := TX10) (N := 9) (at_cw) rfl hK (k_requireStatement en c κ s P ⟨hM, hC, hr_s⟩) mokX10_requireStatement w704 w706 wps1_1 ⟨Nat.le_of_ble_eq_true rfl, Nat.le_of_ble_eq_true rfl⟩ rfl (Nat.le_of_ble_eq_true rfl) ⟨Nat.le_of_ble_eq_true rfl, Nat.le_of_ble_eq_true rfl⟩ dX10_leastRestByDifferences_2 hX (fun X w h => XP1.of (gd_f h.2.2) h.1 (by decide) h.2.1 hCW) (Nat.le_of_ble_eq_true rfl) (Nat.le_of_ble_eq_true rfl) (fun v w p_1 => ?_)
  obtain ⟨rfl, rfl, q_2⟩ := p_1
  show V K sX10_leastRestByDifferences 1 6 (fm (cO en c κ)) [some (.ref (c 0)), some (.int (zI s))] [] 5
  refine V_aload_n dX10_leastRestByDifferences_5 rfl ?_
  refine VO_callVF (As := []) (b := c 0) (i := 0) (ci := 9) (fs := cwF c κ) (T := TX10) (N := 9) (at_cw) rfl hK (k_arranged en c κ P ⟨hM, hC⟩) mokX10_arranged w312 w314 wps0_0 ⟨Nat.le_of_ble_eq_true rfl, Nat.le_of_ble_eq_true rfl⟩ rfl (Nat.le_of_ble_eq_true rfl) ⟨Nat.le_of_ble_eq_true rfl, Nat.le_of_ble_eq_true rfl⟩ dX10_leastRestByDifferences_6 (fun v w p_3 => ?_)
  obtain ⟨κ_4, rfl, rfl, q_5, q_6, q_7⟩ := p_3
  show V K sX10_leastRestByDifferences 1 6 (fm (cO en c κ_4)) [some (.ref (c 0)), some (.int (zI s))] [.ref (c 2)] 9
  refine V_pop dX10_leastRestByDifferences_9 rfl ?_
  refine V_aload_n dX10_leastRestByDifferences_10 rfl ?_
  refine V_iload_n dX10_leastRestByDifferences_11 rfl ?_
  refine VO_callVF (As := [.int (zI s)]) (b := c 0) (i := 0) (ci := 9) (fs := cwF c κ_4) (T := TX10) (N := 9) (at_cw) rfl hK (k_gatherDifferences en c κ_4 s P (P 0 11) (P 0 12) ⟨hM, q_5, q_6, q_2⟩) mokX10_gatherDifferences w365 w367 wps0_5 ⟨Nat.le_of_ble_eq_true rfl, Nat.le_of_ble_eq_true rfl⟩ rfl (Nat.le_of_ble_eq_true rfl) ⟨Nat.le_of_ble_eq_true rfl, Nat.le_of_ble_eq_true rfl⟩ dX10_leastRestByDifferences_12 (fun v w p_8 => ?_)
  obtain ⟨κ_9, rfl, rfl, q_10, q_11, q_12⟩ := p_8
  show V K sX10_leastRestByDifferences 1 6 (fm (cO en c κ_9)) [some (.ref (c 0)), some (.int (zI s))] [] 15
  have hCh := (hCW.fr q_7 (by decide)).fr q_12 (by decide)
  refine V_aload_n dX10_leastRestByDifferences_15 rfl ?_
  refine VO_getf (C0 := RX10) (T := TX10) (N := 9) (ci := 9) (fs := cwF c κ_9) 0 2 iwX10 (by decide) w235 (Or.inl rfl) rfl (at_cw) rfl dX10_leastRestByDifferences_16 ?_
  refine VO_callVF (As := []) (b := c 12) (i := 12) (ci := 2) (fs := dfF c κ_9) (T := TX2) (N := 7) (at_df) rfl hK (k_w2_leastModulusDividingNone en c κ_9 P (gD P (P 0 11) (P 0 12) s s noD) ⟨hM, q_10, q_11, VB_gD hM⟩) mokX2_leastModulusDividingNone w965 w966 w967 ⟨Nat.le_of_ble_eq_true rfl, Nat.le_of_ble_eq_true rfl⟩ rfl (Nat.le_of_ble_eq_true rfl) ⟨Nat.le_of_ble_eq_true rfl, Nat.le_of_ble_eq_true rfl⟩ dX10_leastRestByDifferences_19 (fun v w p_13 => ?_)
  obtain ⟨r_14, κ_15, rfl, rfl, q_16, q_17, q_18⟩ := p_13
  show V K sX10_leastRestByDifferences 1 6 (fm (cO en c κ_15)) [some (.ref (c 0)), some (.int (zI s))] [.int (zI r_14)] 22
  refine V_iret hR rfl (Nat.le_of_ble_eq_true rfl) (Nat.le_of_ble_eq_true rfl) dX10_leastRestByDifferences_22 ?_
  exact pubC (sp := sp_leastRest P s) (gd_t q_2) (ziE ((q_18.1.congr (fun k => rD_iff hM)).uniq (lr_spec hM _ _ _))) (hCh.fr q_17 (by decide))
set_option maxRecDepth 100000 in
set_option maxHeartbeats 4000000 in
theorem k_leastRowRest (en : Nat → Nat) (c : Nat → Nat) (κ : St) (s : Int) (P : St) (hp : MI P ∧ CI P κ ∧ iR s ∧ WR P κ ∧ WB κ 4) : MCX (EN en) yX10_leastRowRest sX10_leastRowRest [.ref (c 0), .int (zI s)] (fm (cO en c κ)) (fun v w => ∃ κ2 : St, v = some (.int (zI ((sp_leastRowRest P s).2.1))) ∧ w = fm (cO en c κ2) ∧ ((sp_leastRowRest P s).1 = 0) ∧ (CWP (sp_leastRowRest P s).2.2 κ2)) (XP1 en c (sp_leastRowRest P s) P [(1, IOBs)]) := by
  refine MCX.of (EN.stb en) [some (.ref (c 0)), some (.int (zI s))] 0 rfl rfl rfl (by simp [Value.category]) (Nat.le_of_ble_eq_true rfl) (fun K hK hR hX => ?_)
  obtain ⟨hM, hC, hp⟩ := hp
  have hN4 := hM.2.2.1
  obtain ⟨hr_s, hW, hW4⟩ := hp
  have hCW : CWP P κ := ⟨hC, hW, hW4⟩
  unfold iR at hr_s
  refine V_aload_n dX10_leastRowRest_0 rfl ?_
  refine V_iload_n dX10_leastRowRest_1 rfl ?_
  refine VO_callXVF (As := [.int (zI s)]) (b := c 0) (i := 0) (ci := 9) (fs := cwF c κ) (T := TX10) (N := 9) (at_cw) rfl hK (k_requireStatement en c κ s P ⟨hM, hC, hr_s⟩) mokX10_requireStatement w704 w706 wps1_1 ⟨Nat.le_of_ble_eq_true rfl, Nat.le_of_ble_eq_true rfl⟩ rfl (Nat.le_of_ble_eq_true rfl) ⟨Nat.le_of_ble_eq_true rfl, Nat.le_of_ble_eq_true rfl⟩ dX10_leastRowRest_2 hX (fun X w h => XP1.of (gd_f h.2.2) h.1 (by decide) h.2.1 hCW) (Nat.le_of_ble_eq_true rfl) (Nat.le_of_ble_eq_true rfl) (fun v w p_1 => ?_)
  obtain ⟨rfl, rfl, q_2⟩ := p_1
  show V K sX10_leastRowRest 1 6 (fm (cO en c κ)) [some (.ref (c 0)), some (.int (zI s))] [] 5
  refine V_aload_n dX10_leastRowRest_5 rfl ?_
  refine VO_callVF (As := []) (b := c 0) (i := 0) (ci := 9) (fs := cwF c κ) (T := TX10) (N := 9) (at_cw) rfl hK (k_arranged en c κ P ⟨hM, hC⟩) mokX10_arranged w312 w314 wps0_0 ⟨Nat.le_of_ble_eq_true rfl, Nat.le_of_ble_eq_true rfl⟩ rfl (Nat.le_of_ble_eq_true rfl) ⟨Nat.le_of_ble_eq_true rfl, Nat.le_of_ble_eq_true rfl⟩ dX10_leastRowRest_6 (fun v w p_3 => ?_)
  obtain ⟨κ_4, rfl, rfl, q_5, q_6, q_7⟩ := p_3
  show V K sX10_leastRowRest 1 6 (fm (cO en c κ_4)) [some (.ref (c 0)), some (.int (zI s))] [.ref (c 2)] 9
  refine V_pop dX10_leastRowRest_9 rfl ?_
  refine V_aload_n dX10_leastRowRest_10 rfl ?_
  refine V_iload_n dX10_leastRowRest_11 rfl ?_
  refine VO_callVF (As := [.int (zI s)]) (b := c 0) (i := 0) (ci := 9) (fs := cwF c κ_4) (T := TX10) (N := 9) (at_cw) rfl hK (k_gatherDifferences en c κ_4 s P (P 0 11) (P 0 12) ⟨hM, q_5, q_6, q_2⟩) mokX10_gatherDifferences w365 w367 wps0_5 ⟨Nat.le_of_ble_eq_true rfl, Nat.le_of_ble_eq_true rfl⟩ rfl (Nat.le_of_ble_eq_true rfl) ⟨Nat.le_of_ble_eq_true rfl, Nat.le_of_ble_eq_true rfl⟩ dX10_leastRowRest_12 (fun v w p_8 => ?_)
  obtain ⟨κ_9, rfl, rfl, q_10, q_11, q_12⟩ := p_8
  show V K sX10_leastRowRest 1 6 (fm (cO en c κ_9)) [some (.ref (c 0)), some (.int (zI s))] [] 15
  have hCh := (hCW.fr q_7 (by decide)).fr q_12 (by decide)
  refine V_aload_n dX10_leastRowRest_15 rfl ?_
  refine VO_getf (C0 := RX10) (T := TX10) (N := 9) (ci := 9) (fs := cwF c κ_9) 0 2 iwX10 (by decide) w235 (Or.inl rfl) rfl (at_cw) rfl dX10_leastRowRest_16 ?_
  refine V_aload_n dX10_leastRowRest_19 rfl ?_
  refine VO_getf (C0 := RX10) (T := TX10) (N := 9) (ci := 9) (fs := cwF c κ_9) 0 3 iwX10 (by decide) w236 (Or.inl rfl) rfl (at_cw) rfl dX10_leastRowRest_20 ?_
  show V K sX10_leastRowRest 1 6 (fm (cO en c κ_9)) [some (.ref (c 0)), some (.int (zI s))] [.ref (c (34 + 8 * Int.toNat 4)), .ref (c 12)] 23
  refine VO_callVF (As := [.ref (c (34 + 8 * Int.toNat 4))]) (b := c 12) (i := 12) (ci := 2) (fs := dfF c κ_9) (T := TX2) (N := 7) (at_df) rfl hK (k_w2_findTwoRests en c κ_9 4 P (gD P (P 0 11) (P 0 12) s s noD) ⟨hM, q_10, q_11, CI.w4 _, hCh.2.2, tD_all hM⟩) mokX2_findTwoRests w443 w444 w445 ⟨Nat.le_of_ble_eq_true rfl, Nat.le_of_ble_eq_true rfl⟩ rfl (Nat.le_of_ble_eq_true rfl) ⟨Nat.le_of_ble_eq_true rfl, Nat.le_of_ble_eq_true rfl⟩ dX10_leastRowRest_23 (fun v w p_13 => ?_)
  obtain ⟨κ_14, rfl, rfl, q_15, q_16, q_17, q_18⟩ := p_13
  show V K sX10_leastRowRest 1 6 (fm (cO en c κ_14)) [some (.ref (c 0)), some (.int (zI s))] [] 26
  refine V_aload_n dX10_leastRowRest_26 rfl ?_
  refine VO_getf (C0 := RX10) (T := TX10) (N := 9) (ci := 9) (fs := cwF c κ_14) 0 3 iwX10 (by decide) w236 (Or.inl rfl) rfl (at_cw) rfl dX10_leastRowRest_27 ?_
  show V K sX10_leastRowRest 1 6 (fm (cO en c κ_14)) [some (.ref (c 0)), some (.int (zI s))] [.ref (c (34 + 8 * Int.toNat 4))] 30
  refine VO_getN (C0 := RX8) (T := TX8) (N := 5) (ci := 7) (fs := wnF en κ_14 4) (34 + 8 * Int.toNat 4) 2 iwX8 (by decide) hK wn179 rfl (at_wn (CI.w4 _)) rfl dX10_leastRowRest_30 ?_
  refine V_eqT (y := zI (tw1 P (P 0 11) (P 0 12) s)) (congrArg zI (IsT.two q_18.1).1) ?_
  refine V_iret hR rfl (Nat.le_of_ble_eq_true rfl) (Nat.le_of_ble_eq_true rfl) dX10_leastRowRest_33 ?_
  exact pubC (sp := sp_leastRowRest P s) (gd_t q_2) rfl (hCh.frW4 q_16 q_17 hM)
set_option maxRecDepth 100000 in
set_option maxHeartbeats 4000000 in
theorem k_leastColumnRest (en : Nat → Nat) (c : Nat → Nat) (κ : St) (s : Int) (P : St) (hp : MI P ∧ CI P κ ∧ iR s ∧ WR P κ ∧ WB κ 4) : MCX (EN en) yX10_leastColumnRest sX10_leastColumnRest [.ref (c 0), .int (zI s)] (fm (cO en c κ)) (fun v w => ∃ κ2 : St, v = some (.int (zI ((sp_leastColumnRest P s).2.1))) ∧ w = fm (cO en c κ2) ∧ ((sp_leastColumnRest P s).1 = 0) ∧ (CWP (sp_leastColumnRest P s).2.2 κ2)) (XP1 en c (sp_leastColumnRest P s) P [(1, IOBs)]) := by
  refine MCX.of (EN.stb en) [some (.ref (c 0)), some (.int (zI s))] 0 rfl rfl rfl (by simp [Value.category]) (Nat.le_of_ble_eq_true rfl) (fun K hK hR hX => ?_)
  obtain ⟨hM, hC, hp⟩ := hp
  have hN4 := hM.2.2.1
  obtain ⟨hr_s, hW, hW4⟩ := hp
  have hCW : CWP P κ := ⟨hC, hW, hW4⟩
  unfold iR at hr_s
  refine V_aload_n dX10_leastColumnRest_0 rfl ?_
  refine V_iload_n dX10_leastColumnRest_1 rfl ?_
  refine VO_callXVF (As := [.int (zI s)]) (b := c 0) (i := 0) (ci := 9) (fs := cwF c κ) (T := TX10) (N := 9) (at_cw) rfl hK (k_requireStatement en c κ s P ⟨hM, hC, hr_s⟩) mokX10_requireStatement w704 w706 wps1_1 ⟨Nat.le_of_ble_eq_true rfl, Nat.le_of_ble_eq_true rfl⟩ rfl (Nat.le_of_ble_eq_true rfl) ⟨Nat.le_of_ble_eq_true rfl, Nat.le_of_ble_eq_true rfl⟩ dX10_leastColumnRest_2 hX (fun X w h => XP1.of (gd_f h.2.2) h.1 (by decide) h.2.1 hCW) (Nat.le_of_ble_eq_true rfl) (Nat.le_of_ble_eq_true rfl) (fun v w p_1 => ?_)
  obtain ⟨rfl, rfl, q_2⟩ := p_1
  show V K sX10_leastColumnRest 1 6 (fm (cO en c κ)) [some (.ref (c 0)), some (.int (zI s))] [] 5
  refine V_aload_n dX10_leastColumnRest_5 rfl ?_
  refine VO_callVF (As := []) (b := c 0) (i := 0) (ci := 9) (fs := cwF c κ) (T := TX10) (N := 9) (at_cw) rfl hK (k_arranged en c κ P ⟨hM, hC⟩) mokX10_arranged w312 w314 wps0_0 ⟨Nat.le_of_ble_eq_true rfl, Nat.le_of_ble_eq_true rfl⟩ rfl (Nat.le_of_ble_eq_true rfl) ⟨Nat.le_of_ble_eq_true rfl, Nat.le_of_ble_eq_true rfl⟩ dX10_leastColumnRest_6 (fun v w p_3 => ?_)
  obtain ⟨κ_4, rfl, rfl, q_5, q_6, q_7⟩ := p_3
  show V K sX10_leastColumnRest 1 6 (fm (cO en c κ_4)) [some (.ref (c 0)), some (.int (zI s))] [.ref (c 2)] 9
  refine V_pop dX10_leastColumnRest_9 rfl ?_
  refine V_aload_n dX10_leastColumnRest_10 rfl ?_
  refine V_iload_n dX10_leastColumnRest_11 rfl ?_
  refine VO_callVF (As := [.int (zI s)]) (b := c 0) (i := 0) (ci := 9) (fs := cwF c κ_4) (T := TX10) (N := 9) (at_cw) rfl hK (k_gatherDifferences en c κ_4 s P (P 0 11) (P 0 12) ⟨hM, q_5, q_6, q_2⟩) mokX10_gatherDifferences w365 w367 wps0_5 ⟨Nat.le_of_ble_eq_true rfl, Nat.le_of_ble_eq_true rfl⟩ rfl (Nat.le_of_ble_eq_true rfl) ⟨Nat.le_of_ble_eq_true rfl, Nat.le_of_ble_eq_true rfl⟩ dX10_leastColumnRest_12 (fun v w p_8 => ?_)
  obtain ⟨κ_9, rfl, rfl, q_10, q_11, q_12⟩ := p_8
  show V K sX10_leastColumnRest 1 6 (fm (cO en c κ_9)) [some (.ref (c 0)), some (.int (zI s))] [] 15
  have hCh := (hCW.fr q_7 (by decide)).fr q_12 (by decide)
  refine V_aload_n dX10_leastColumnRest_15 rfl ?_
  refine VO_getf (C0 := RX10) (T := TX10) (N := 9) (ci := 9) (fs := cwF c κ_9) 0 2 iwX10 (by decide) w235 (Or.inl rfl) rfl (at_cw) rfl dX10_leastColumnRest_16 ?_
  refine V_aload_n dX10_leastColumnRest_19 rfl ?_
  refine VO_getf (C0 := RX10) (T := TX10) (N := 9) (ci := 9) (fs := cwF c κ_9) 0 3 iwX10 (by decide) w236 (Or.inl rfl) rfl (at_cw) rfl dX10_leastColumnRest_20 ?_
  show V K sX10_leastColumnRest 1 6 (fm (cO en c κ_9)) [some (.ref (c 0)), some (.int (zI s))] [.ref (c (34 + 8 * Int.toNat 4)), .ref (c 12)] 23
  refine VO_callVF (As := [.ref (c (34 + 8 * Int.toNat 4))]) (b := c 12) (i := 12) (ci := 2) (fs := dfF c κ_9) (T := TX2) (N := 7) (at_df) rfl hK (k_w2_findTwoRests en c κ_9 4 P (gD P (P 0 11) (P 0 12) s s noD) ⟨hM, q_10, q_11, CI.w4 _, hCh.2.2, tD_all hM⟩) mokX2_findTwoRests w443 w444 w445 ⟨Nat.le_of_ble_eq_true rfl, Nat.le_of_ble_eq_true rfl⟩ rfl (Nat.le_of_ble_eq_true rfl) ⟨Nat.le_of_ble_eq_true rfl, Nat.le_of_ble_eq_true rfl⟩ dX10_leastColumnRest_23 (fun v w p_13 => ?_)
  obtain ⟨κ_14, rfl, rfl, q_15, q_16, q_17, q_18⟩ := p_13
  show V K sX10_leastColumnRest 1 6 (fm (cO en c κ_14)) [some (.ref (c 0)), some (.int (zI s))] [] 26
  refine V_aload_n dX10_leastColumnRest_26 rfl ?_
  refine VO_getf (C0 := RX10) (T := TX10) (N := 9) (ci := 9) (fs := cwF c κ_14) 0 3 iwX10 (by decide) w236 (Or.inl rfl) rfl (at_cw) rfl dX10_leastColumnRest_27 ?_
  show V K sX10_leastColumnRest 1 6 (fm (cO en c κ_14)) [some (.ref (c 0)), some (.int (zI s))] [.ref (c (34 + 8 * Int.toNat 4))] 30
  refine VO_getN (C0 := RX8) (T := TX8) (N := 5) (ci := 7) (fs := wnF en κ_14 4) (34 + 8 * Int.toNat 4) 3 iwX8 (by decide) hK wn181 rfl (at_wn (CI.w4 _)) rfl dX10_leastColumnRest_30 ?_
  refine V_eqT (y := zI (tw2 P (P 0 11) (P 0 12) s)) (congrArg zI (IsT.two q_18.1).2) ?_
  refine V_iret hR rfl (Nat.le_of_ble_eq_true rfl) (Nat.le_of_ble_eq_true rfl) dX10_leastColumnRest_33 ?_
  exact pubC (sp := sp_leastColumnRest P s) (gd_t q_2) rfl (hCh.frW4 q_16 q_17 hM)
set_option maxRecDepth 100000 in
set_option maxHeartbeats 4000000 in
theorem k_leastSlantModulus (en : Nat → Nat) (c : Nat → Nat) (κ : St) (s : Int) (P : St) (hp : MI P ∧ CI P κ ∧ iR s ∧ WR P κ ∧ WB κ 4) : MCX (EN en) yX10_leastSlantModulus sX10_leastSlantModulus [.ref (c 0), .int (zI s)] (fm (cO en c κ)) (fun v w => ∃ κ2 : St, v = some (.int (zI ((sp_leastSlantModulus P s).2.1))) ∧ w = fm (cO en c κ2) ∧ ((sp_leastSlantModulus P s).1 = 0) ∧ (CWP (sp_leastSlantModulus P s).2.2 κ2)) (XP1 en c (sp_leastSlantModulus P s) P [(1, IOBs)]) := by
  refine MCX.of (EN.stb en) [some (.ref (c 0)), some (.int (zI s))] 0 rfl rfl rfl (by simp [Value.category]) (Nat.le_of_ble_eq_true rfl) (fun K hK hR hX => ?_)
  obtain ⟨hM, hC, hp⟩ := hp
  have hN4 := hM.2.2.1
  obtain ⟨hr_s, hW, hW4⟩ := hp
  have hCW : CWP P κ := ⟨hC, hW, hW4⟩
  unfold iR at hr_s
  refine V_aload_n dX10_leastSlantModulus_0 rfl ?_
  refine V_iload_n dX10_leastSlantModulus_1 rfl ?_
  refine VO_callXVF (As := [.int (zI s)]) (b := c 0) (i := 0) (ci := 9) (fs := cwF c κ) (T := TX10) (N := 9) (at_cw) rfl hK (k_requireStatement en c κ s P ⟨hM, hC, hr_s⟩) mokX10_requireStatement w704 w706 wps1_1 ⟨Nat.le_of_ble_eq_true rfl, Nat.le_of_ble_eq_true rfl⟩ rfl (Nat.le_of_ble_eq_true rfl) ⟨Nat.le_of_ble_eq_true rfl, Nat.le_of_ble_eq_true rfl⟩ dX10_leastSlantModulus_2 hX (fun X w h => XP1.of (gd_f h.2.2) h.1 (by decide) h.2.1 hCW) (Nat.le_of_ble_eq_true rfl) (Nat.le_of_ble_eq_true rfl) (fun v w p_1 => ?_)
  obtain ⟨rfl, rfl, q_2⟩ := p_1
  show V K sX10_leastSlantModulus 1 6 (fm (cO en c κ)) [some (.ref (c 0)), some (.int (zI s))] [] 5
  refine V_aload_n dX10_leastSlantModulus_5 rfl ?_
  refine VO_callVF (As := []) (b := c 0) (i := 0) (ci := 9) (fs := cwF c κ) (T := TX10) (N := 9) (at_cw) rfl hK (k_arranged en c κ P ⟨hM, hC⟩) mokX10_arranged w312 w314 wps0_0 ⟨Nat.le_of_ble_eq_true rfl, Nat.le_of_ble_eq_true rfl⟩ rfl (Nat.le_of_ble_eq_true rfl) ⟨Nat.le_of_ble_eq_true rfl, Nat.le_of_ble_eq_true rfl⟩ dX10_leastSlantModulus_6 (fun v w p_3 => ?_)
  obtain ⟨κ_4, rfl, rfl, q_5, q_6, q_7⟩ := p_3
  show V K sX10_leastSlantModulus 1 6 (fm (cO en c κ_4)) [some (.ref (c 0)), some (.int (zI s))] [.ref (c 2)] 9
  refine V_pop dX10_leastSlantModulus_9 rfl ?_
  refine V_aload_n dX10_leastSlantModulus_10 rfl ?_
  refine V_iload_n dX10_leastSlantModulus_11 rfl ?_
  refine VO_callVF (As := [.int (zI s)]) (b := c 0) (i := 0) (ci := 9) (fs := cwF c κ_4) (T := TX10) (N := 9) (at_cw) rfl hK (k_gatherDifferences en c κ_4 s P (P 0 11) (P 0 12) ⟨hM, q_5, q_6, q_2⟩) mokX10_gatherDifferences w365 w367 wps0_5 ⟨Nat.le_of_ble_eq_true rfl, Nat.le_of_ble_eq_true rfl⟩ rfl (Nat.le_of_ble_eq_true rfl) ⟨Nat.le_of_ble_eq_true rfl, Nat.le_of_ble_eq_true rfl⟩ dX10_leastSlantModulus_12 (fun v w p_8 => ?_)
  obtain ⟨κ_9, rfl, rfl, q_10, q_11, q_12⟩ := p_8
  show V K sX10_leastSlantModulus 1 6 (fm (cO en c κ_9)) [some (.ref (c 0)), some (.int (zI s))] [] 15
  have hCh := (hCW.fr q_7 (by decide)).fr q_12 (by decide)
  have hlk := ls_ok hM (P 0 11) (P 0 12) s
  refine V_aload_n dX10_leastSlantModulus_15 rfl ?_
  refine VO_getf (C0 := RX10) (T := TX10) (N := 9) (ci := 9) (fs := cwF c κ_9) 0 2 iwX10 (by decide) w235 (Or.inl rfl) rfl (at_cw) rfl dX10_leastSlantModulus_16 ?_
  refine V_aload_n dX10_leastSlantModulus_19 rfl ?_
  refine VO_getf (C0 := RX10) (T := TX10) (N := 9) (ci := 9) (fs := cwF c κ_9) 0 3 iwX10 (by decide) w236 (Or.inl rfl) rfl (at_cw) rfl dX10_leastSlantModulus_20 ?_
  show V K sX10_leastSlantModulus 1 6 (fm (cO en c κ_9)) [some (.ref (c 0)), some (.int (zI s))] [.ref (c (34 + 8 * Int.toNat 4)), .ref (c 12)] 23
  refine VO_callVF (As := [.ref (c (34 + 8 * Int.toNat 4))]) (b := c 12) (i := 12) (ci := 2) (fs := dfF c κ_9) (T := TX2) (N := 7) (at_df) rfl hK (k_w2_findSlant en c κ_9 4 P (gD P (P 0 11) (P 0 12) s s noD) (ls P (P 0 11) (P 0 12) s) ⟨hM, q_10, q_11, CI.w4 _, hCh.2.2, hlk.1, hlk.2⟩) mokX2_findSlant w451 w452 w453 ⟨Nat.le_of_ble_eq_true rfl, Nat.le_of_ble_eq_true rfl⟩ rfl (Nat.le_of_ble_eq_true rfl) ⟨Nat.le_of_ble_eq_true rfl, Nat.le_of_ble_eq_true rfl⟩ dX10_leastSlantModulus_23 (fun v w p_13 => ?_)
  obtain ⟨κ_14, rfl, rfl, q_15, q_16, q_17, q_18⟩ := p_13
  show V K sX10_leastSlantModulus 1 6 (fm (cO en c κ_14)) [some (.ref (c 0)), some (.int (zI s))] [] 26
  refine V_aload_n dX10_leastSlantModulus_26 rfl ?_
  refine VO_getf (C0 := RX10) (T := TX10) (N := 9) (ci := 9) (fs := cwF c κ_14) 0 3 iwX10 (by decide) w236 (Or.inl rfl) rfl (at_cw) rfl dX10_leastSlantModulus_27 ?_
  show V K sX10_leastSlantModulus 1 6 (fm (cO en c κ_14)) [some (.ref (c 0)), some (.int (zI s))] [.ref (c (34 + 8 * Int.toNat 4))] 30
  refine VO_getN (C0 := RX8) (T := TX8) (N := 5) (ci := 7) (fs := wnF en κ_14 4) (34 + 8 * Int.toNat 4) 1 iwX8 (by decide) hK wn177 rfl (at_wn (CI.w4 _)) rfl dX10_leastSlantModulus_30 ?_
  refine V_eqT (y := zI (ls P (P 0 11) (P 0 12) s / 10)) (congrArg zI (SRs.ls hM q_18).1) ?_
  refine V_iret hR rfl (Nat.le_of_ble_eq_true rfl) (Nat.le_of_ble_eq_true rfl) dX10_leastSlantModulus_33 ?_
  exact pubC (sp := sp_leastSlantModulus P s) (gd_t q_2) rfl (hCh.frW4 q_16 q_17 hM)
set_option maxRecDepth 100000 in
set_option maxHeartbeats 4000000 in
theorem k_leastSlant (en : Nat → Nat) (c : Nat → Nat) (κ : St) (s : Int) (P : St) (hp : MI P ∧ CI P κ ∧ iR s ∧ WR P κ ∧ WB κ 4) : MCX (EN en) yX10_leastSlant sX10_leastSlant [.ref (c 0), .int (zI s)] (fm (cO en c κ)) (fun v w => ∃ κ2 : St, v = some (.int (zI ((sp_leastSlant P s).2.1))) ∧ w = fm (cO en c κ2) ∧ ((sp_leastSlant P s).1 = 0) ∧ (CWP (sp_leastSlant P s).2.2 κ2)) (XP1 en c (sp_leastSlant P s) P [(1, IOBs)]) := by
  refine MCX.of (EN.stb en) [some (.ref (c 0)), some (.int (zI s))] 0 rfl rfl rfl (by simp [Value.category]) (Nat.le_of_ble_eq_true rfl) (fun K hK hR hX => ?_)
  obtain ⟨hM, hC, hp⟩ := hp
  have hN4 := hM.2.2.1
  obtain ⟨hr_s, hW, hW4⟩ := hp
  have hCW : CWP P κ := ⟨hC, hW, hW4⟩
  unfold iR at hr_s
  refine V_aload_n dX10_leastSlant_0 rfl ?_
  refine V_iload_n dX10_leastSlant_1 rfl ?_
  refine VO_callXVF (As := [.int (zI s)]) (b := c 0) (i := 0) (ci := 9) (fs := cwF c κ) (T := TX10) (N := 9) (at_cw) rfl hK (k_requireStatement en c κ s P ⟨hM, hC, hr_s⟩) mokX10_requireStatement w704 w706 wps1_1 ⟨Nat.le_of_ble_eq_true rfl, Nat.le_of_ble_eq_true rfl⟩ rfl (Nat.le_of_ble_eq_true rfl) ⟨Nat.le_of_ble_eq_true rfl, Nat.le_of_ble_eq_true rfl⟩ dX10_leastSlant_2 hX (fun X w h => XP1.of (gd_f h.2.2) h.1 (by decide) h.2.1 hCW) (Nat.le_of_ble_eq_true rfl) (Nat.le_of_ble_eq_true rfl) (fun v w p_1 => ?_)
  obtain ⟨rfl, rfl, q_2⟩ := p_1
  show V K sX10_leastSlant 1 6 (fm (cO en c κ)) [some (.ref (c 0)), some (.int (zI s))] [] 5
  refine V_aload_n dX10_leastSlant_5 rfl ?_
  refine VO_callVF (As := []) (b := c 0) (i := 0) (ci := 9) (fs := cwF c κ) (T := TX10) (N := 9) (at_cw) rfl hK (k_arranged en c κ P ⟨hM, hC⟩) mokX10_arranged w312 w314 wps0_0 ⟨Nat.le_of_ble_eq_true rfl, Nat.le_of_ble_eq_true rfl⟩ rfl (Nat.le_of_ble_eq_true rfl) ⟨Nat.le_of_ble_eq_true rfl, Nat.le_of_ble_eq_true rfl⟩ dX10_leastSlant_6 (fun v w p_3 => ?_)
  obtain ⟨κ_4, rfl, rfl, q_5, q_6, q_7⟩ := p_3
  show V K sX10_leastSlant 1 6 (fm (cO en c κ_4)) [some (.ref (c 0)), some (.int (zI s))] [.ref (c 2)] 9
  refine V_pop dX10_leastSlant_9 rfl ?_
  refine V_aload_n dX10_leastSlant_10 rfl ?_
  refine V_iload_n dX10_leastSlant_11 rfl ?_
  refine VO_callVF (As := [.int (zI s)]) (b := c 0) (i := 0) (ci := 9) (fs := cwF c κ_4) (T := TX10) (N := 9) (at_cw) rfl hK (k_gatherDifferences en c κ_4 s P (P 0 11) (P 0 12) ⟨hM, q_5, q_6, q_2⟩) mokX10_gatherDifferences w365 w367 wps0_5 ⟨Nat.le_of_ble_eq_true rfl, Nat.le_of_ble_eq_true rfl⟩ rfl (Nat.le_of_ble_eq_true rfl) ⟨Nat.le_of_ble_eq_true rfl, Nat.le_of_ble_eq_true rfl⟩ dX10_leastSlant_12 (fun v w p_8 => ?_)
  obtain ⟨κ_9, rfl, rfl, q_10, q_11, q_12⟩ := p_8
  show V K sX10_leastSlant 1 6 (fm (cO en c κ_9)) [some (.ref (c 0)), some (.int (zI s))] [] 15
  have hCh := (hCW.fr q_7 (by decide)).fr q_12 (by decide)
  have hlk := ls_ok hM (P 0 11) (P 0 12) s
  refine V_aload_n dX10_leastSlant_15 rfl ?_
  refine VO_getf (C0 := RX10) (T := TX10) (N := 9) (ci := 9) (fs := cwF c κ_9) 0 2 iwX10 (by decide) w235 (Or.inl rfl) rfl (at_cw) rfl dX10_leastSlant_16 ?_
  refine V_aload_n dX10_leastSlant_19 rfl ?_
  refine VO_getf (C0 := RX10) (T := TX10) (N := 9) (ci := 9) (fs := cwF c κ_9) 0 3 iwX10 (by decide) w236 (Or.inl rfl) rfl (at_cw) rfl dX10_leastSlant_20 ?_
  show V K sX10_leastSlant 1 6 (fm (cO en c κ_9)) [some (.ref (c 0)), some (.int (zI s))] [.ref (c (34 + 8 * Int.toNat 4)), .ref (c 12)] 23
  refine VO_callVF (As := [.ref (c (34 + 8 * Int.toNat 4))]) (b := c 12) (i := 12) (ci := 2) (fs := dfF c κ_9) (T := TX2) (N := 7) (at_df) rfl hK (k_w2_findSlant en c κ_9 4 P (gD P (P 0 11) (P 0 12) s s noD) (ls P (P 0 11) (P 0 12) s) ⟨hM, q_10, q_11, CI.w4 _, hCh.2.2, hlk.1, hlk.2⟩) mokX2_findSlant w451 w452 w453 ⟨Nat.le_of_ble_eq_true rfl, Nat.le_of_ble_eq_true rfl⟩ rfl (Nat.le_of_ble_eq_true rfl) ⟨Nat.le_of_ble_eq_true rfl, Nat.le_of_ble_eq_true rfl⟩ dX10_leastSlant_23 (fun v w p_13 => ?_)
  obtain ⟨κ_14, rfl, rfl, q_15, q_16, q_17, q_18⟩ := p_13
  show V K sX10_leastSlant 1 6 (fm (cO en c κ_14)) [some (.ref (c 0)), some (.int (zI s))] [] 26
  refine V_aload_n dX10_leastSlant_26 rfl ?_
  refine VO_getf (C0 := RX10) (T := TX10) (N := 9) (ci := 9) (fs := cwF c κ_14) 0 3 iwX10 (by decide) w236 (Or.inl rfl) rfl (at_cw) rfl dX10_leastSlant_27 ?_
  show V K sX10_leastSlant 1 6 (fm (cO en c κ_14)) [some (.ref (c 0)), some (.int (zI s))] [.ref (c (34 + 8 * Int.toNat 4))] 30
  refine VO_getN (C0 := RX8) (T := TX8) (N := 5) (ci := 7) (fs := wnF en κ_14 4) (34 + 8 * Int.toNat 4) 4 iwX8 (by decide) hK wn183 rfl (at_wn (CI.w4 _)) rfl dX10_leastSlant_30 ?_
  refine V_eqT (y := zI (ls P (P 0 11) (P 0 12) s % 10)) (congrArg zI (SRs.ls hM q_18).2) ?_
  refine V_iret hR rfl (Nat.le_of_ble_eq_true rfl) (Nat.le_of_ble_eq_true rfl) dX10_leastSlant_33 ?_
  exact pubC (sp := sp_leastSlant P s) (gd_t q_2) rfl (hCh.frW4 q_16 q_17 hM)

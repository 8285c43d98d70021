/-! the class: what is allowed -/
set_option maxRecDepth 100000 in
set_option maxHeartbeats 4000000 in
theorem k_w5_comesLater (en : Nat → Nat) (c : Nat → Nat) (κ : St) (i : Int) (j : Int) (bw : Int) (cw : Int) (P : St) (hp : MI P ∧ CI P κ ∧ (0 ≤ i ∧ i < P 0 2) ∧ (0 ≤ j ∧ j < P 4 i) ∧ (0 ≤ bw ∧ bw ≤ 9) ∧ (0 ≤ cw ∧ cw ≤ 9)) : MC (EN en) yX5_comesLater sX5_comesLater [.ref (c 1), .int (zI i), .ref (c (37 + 8 * Int.toNat i + Int.toNat j)), .int (zI bw), .int (zI cw)] (fm (cO en c κ)) (fun v w => v = some (.int (zI (bz (dcd (inO P bw cw i j))))) ∧ w = fm (cO en c κ)) := by
  refine MC.of (EN.stb en) [some (.ref (c 1)), some (.int (zI i)), some (.ref (c (37 + 8 * Int.toNat i + Int.toNat j))), some (.int (zI bw)), some (.int (zI cw)), none] 1 rfl rfl rfl (by simp [Value.category]) (Nat.le_of_ble_eq_true rfl) (fun K hK hR => ?_)
  obtain ⟨hM, hC, hp⟩ := hp
  have hN4 := hM.2.2.1
  obtain ⟨hi, hj, hb, hw⟩ := hp
  have hr := hM.rd hi hj
  have hm1 := hM.1
  have hm2 := hM.2.1
  have m1 := mulB (a := P 7 (4 * i + j)) (b := bw) (A := 3) (B := 9) hr.2.2.1.1 hr.2.2.1.2 hb.1 hb.2
  have m2 := mulS (a := P 8 (4 * i + j)) (b := cw) (A := 3) (B := 9) hr.2.2.2.1 hr.2.2.2.2 (by omega) hw.2
  have o1 := hM.of10 hi
  have o2 := hM.of10 hr.1
  have ha : absI (P 8 (4 * i + j)) ≤ 3 ∧ 0 ≤ absI (P 8 (4 * i + j)) := by unfold absI; split <;> omega
  refine V_aload_n dX5_comesLater_0 rfl ?_
  refine VO_getN (C0 := RX6) (T := TX6) (N := 4) (ci := 5) (fs := rdF κ i j) (37 + 8 * Int.toNat i + Int.toNat j) 2 iwX6 (by decide) hK wn740 rfl (at_rd ((hC).rd hM (by omega) (by omega))) rfl dX5_comesLater_1 ?_
  refine V_eqT (y := zI (P 7 (4 * i + j))) (congrArg zI (congrFun ((hC).1 7 (by decide) (by decide)) _)) ?_
  refine V_aload_n dX5_comesLater_4 rfl ?_
  refine VO_getf (C0 := RX5) (T := TX5) (N := 4) (ci := 4) (fs := prF c κ) 1 1 iwX5 (by decide) w72 (Or.inl rfl) rfl (at_pr) rfl dX5_comesLater_5 ?_
  refine V_eqT (y := zI (P 0 0)) (congrArg zI (congrFun ((hC).1 0 (by decide) (by decide)) _)) ?_
  refine V_icmp_ge (tgt := 25) dX5_comesLater_8 (by decide) ⟨⟨by omega, by omega⟩, ⟨by omega, by omega⟩⟩ (fun c_1 => ?_) (fun c_1 => ?_)
  · refine V_iconst dX5_comesLater_25 ?_
    show V K sX5_comesLater 0 0 (fm (cO en c κ)) _ [.int (zI (bz true))] 26
    refine V_zret hR rfl (Nat.le_of_ble_eq_true rfl) (Nat.le_of_ble_eq_true rfl) dX5_comesLater_26 ?_
    exact ⟨dcdT ((inO_iff hM hi hj).mpr (by unfold clP late dly; omega)), rfl⟩
  · refine V_aload_n dX5_comesLater_11 rfl ?_
    refine VO_getN (C0 := RX6) (T := TX6) (N := 4) (ci := 5) (fs := rdF κ i j) (37 + 8 * Int.toNat i + Int.toNat j) 3 iwX6 (by decide) hK wn744 rfl (at_rd ((hC).rd hM (by omega) (by omega))) rfl dX5_comesLater_12 ?_
    refine V_eqT (y := zI (P 8 (4 * i + j))) (congrArg zI (congrFun ((hC).1 8 (by decide) (by decide)) _)) ?_
    refine V_callSE (As := [.int (zI (P 8 (4 * i + j)))]) hK (k_abs en (P 8 (4 * i + j)) (by refine ⟨?_, ?_⟩ <;> first | assumption | (refine ⟨?_, ?_⟩ <;> first | assumption | omega) | omega)) mokJ9_abs_0f7a4 w293 w294 ⟨Nat.le_of_ble_eq_true rfl, Nat.le_of_ble_eq_true rfl⟩ rfl (Nat.le_of_ble_eq_true rfl) ⟨Nat.le_of_ble_eq_true rfl, Nat.le_of_ble_eq_true rfl⟩ dX5_comesLater_15 (fun v w p_2 => ?_)
    obtain ⟨rfl, rfl⟩ := p_2
    show V K sX5_comesLater 0 0 (fm (cO en c κ)) [some (.ref (c 1)), some (.int (zI i)), some (.ref (c (37 + 8 * Int.toNat i + Int.toNat j))), some (.int (zI bw)), some (.int (zI cw)), none] [.int (zI (absI (P 8 (4 * i + j))))] 18
    refine V_aload_n dX5_comesLater_18 rfl ?_
    refine VO_getf (C0 := RX5) (T := TX5) (N := 4) (ci := 4) (fs := prF c κ) 1 2 iwX5 (by decide) w75 (Or.inl rfl) rfl (at_pr) rfl dX5_comesLater_19 ?_
    refine V_eqT (y := zI (P 0 1)) (congrArg zI (congrFun ((hC).1 0 (by decide) (by decide)) _)) ?_
    refine V_icmp_lt (tgt := 27) dX5_comesLater_22 (by decide) ⟨⟨by omega, by omega⟩, ⟨by omega, by omega⟩⟩ (fun c_3 => ?_) (fun c_3 => ?_)
    · refine V_aload_n dX5_comesLater_27 rfl ?_
      refine VO_getN (C0 := RX6) (T := TX6) (N := 4) (ci := 5) (fs := rdF κ i j) (37 + 8 * Int.toNat i + Int.toNat j) 2 iwX6 (by decide) hK wn740 rfl (at_rd ((hC).rd hM (by omega) (by omega))) rfl dX5_comesLater_28 ?_
      refine V_eqT (y := zI (P 7 (4 * i + j))) (congrArg zI (congrFun ((hC).1 7 (by decide) (by decide)) _)) ?_
      refine V_iload_n dX5_comesLater_31 rfl ?_
      refine V_imul dX5_comesLater_32 ?_
      refine V_aload_n dX5_comesLater_33 rfl ?_
      refine VO_getN (C0 := RX6) (T := TX6) (N := 4) (ci := 5) (fs := rdF κ i j) (37 + 8 * Int.toNat i + Int.toNat j) 3 iwX6 (by decide) hK wn744 rfl (at_rd ((hC).rd hM (by omega) (by omega))) rfl dX5_comesLater_34 ?_
      refine V_eqT (y := zI (P 8 (4 * i + j))) (congrArg zI (congrFun ((hC).1 8 (by decide) (by decide)) _)) ?_
      refine V_iload dX5_comesLater_37 rfl ?_
      refine V_imul dX5_comesLater_39 ?_
      refine V_iadd dX5_comesLater_40 ?_
      refine V_aload_n dX5_comesLater_41 rfl ?_
      refine VO_getf (C0 := RX5) (T := TX5) (N := 4) (ci := 4) (fs := prF c κ) 1 0 iwX5 (by decide) w68 (Or.inl rfl) rfl (at_pr) rfl dX5_comesLater_42 ?_
      show V K sX5_comesLater 0 0 (fm (cO en c κ)) [some (.ref (c 1)), some (.int (zI i)), some (.ref (c (37 + 8 * Int.toNat i + Int.toNat j))), some (.int (zI bw)), some (.int (zI cw)), none] [.ref (c (35 + 8 * Int.toNat 4)), .int (zI (((P 7 (4 * i + j)) * bw) + ((P 8 (4 * i + j)) * cw)))] 45
      refine V_iload_n dX5_comesLater_45 rfl ?_
      refine VO_callVF (As := [.int (zI i)]) (b := c (35 + 8 * Int.toNat 4)) (i := 35 + 8 * Int.toNat 4) (ci := 0) (fs := alF en c κ 4) (T := TJx4a65c) (N := 3) (at_al (CI.w4 _)) rfl hK (k_get4 en c κ i P ⟨hM, hC, by first | assumption | omega | exact ⟨by omega, by omega⟩ | exact ⟨⟨by omega, by omega⟩, by omega, by omega⟩ | exact ⟨⟨by omega, by omega⟩, ⟨by omega, by omega⟩⟩ | exact ⟨⟨by omega, by omega⟩, ⟨by omega, by omega⟩, by omega, by omega⟩⟩) mokJx4a65c_get_915e3 w273 w274 w275 ⟨Nat.le_of_ble_eq_true rfl, Nat.le_of_ble_eq_true rfl⟩ rfl (Nat.le_of_ble_eq_true rfl) ⟨Nat.le_of_ble_eq_true rfl, Nat.le_of_ble_eq_true rfl⟩ dX5_comesLater_46 (fun v w p_4 => ?_)
      obtain ⟨rfl, rfl⟩ := p_4
      show V K sX5_comesLater 0 0 (fm (cO en c κ)) [some (.ref (c 1)), some (.int (zI i)), some (.ref (c (37 + 8 * Int.toNat i + Int.toNat j))), some (.int (zI bw)), some (.int (zI cw)), none] [.ref (c (33 + 8 * Int.toNat i)), .int (zI (((P 7 (4 * i + j)) * bw) + ((P 8 (4 * i + j)) * cw)))] 49
      refine VO_castS (33 + 8 * Int.toNat i) (at_sm ((hC).sm hM (by omega))) rfl w287 dX5_comesLater_49 ?_
      refine VO_getN (C0 := RX7) (T := TX7) (N := 5) (ci := 6) (fs := smF c κ i) (33 + 8 * Int.toNat i) 3 iwX7 (by decide) hK wn626 rfl (at_sm ((hC).sm hM (by omega))) rfl dX5_comesLater_52 ?_
      refine V_eqT (y := zI (P 10 i)) (congrArg zI (congrFun ((hC).1 10 (by decide) (by decide)) _)) ?_
      refine V_iadd dX5_comesLater_55 ?_
      refine V_aload_n dX5_comesLater_56 rfl ?_
      refine VO_getf (C0 := RX5) (T := TX5) (N := 4) (ci := 4) (fs := prF c κ) 1 0 iwX5 (by decide) w68 (Or.inl rfl) rfl (at_pr) rfl dX5_comesLater_57 ?_
      show V K sX5_comesLater 0 0 (fm (cO en c κ)) [some (.ref (c 1)), some (.int (zI i)), some (.ref (c (37 + 8 * Int.toNat i + Int.toNat j))), some (.int (zI bw)), some (.int (zI cw)), none] [.ref (c (35 + 8 * Int.toNat 4)), .int (zI ((((P 7 (4 * i + j)) * bw) + ((P 8 (4 * i + j)) * cw)) + (P 10 i)))] 60
      refine V_aload_n dX5_comesLater_60 rfl ?_
      refine VO_getN (C0 := RX6) (T := TX6) (N := 4) (ci := 5) (fs := rdF κ i j) (37 + 8 * Int.toNat i + Int.toNat j) 0 iwX6 (by decide) hK wn734 rfl (at_rd ((hC).rd hM (by omega) (by omega))) rfl dX5_comesLater_61 ?_
      refine V_eqT (y := zI (P 5 (4 * i + j))) (congrArg zI (congrFun ((hC).1 5 (by decide) (by decide)) _)) ?_
      refine VO_callVF (As := [.int (zI (P 5 (4 * i + j)))]) (b := c (35 + 8 * Int.toNat 4)) (i := 35 + 8 * Int.toNat 4) (ci := 0) (fs := alF en c κ 4) (T := TJx4a65c) (N := 3) (at_al (CI.w4 _)) rfl hK (k_get4 en c κ (P 5 (4 * i + j)) P ⟨hM, hC, by first | assumption | omega | exact ⟨by omega, by omega⟩ | exact ⟨⟨by omega, by omega⟩, by omega, by omega⟩ | exact ⟨⟨by omega, by omega⟩, ⟨by omega, by omega⟩⟩ | exact ⟨⟨by omega, by omega⟩, ⟨by omega, by omega⟩, by omega, by omega⟩⟩) mokJx4a65c_get_915e3 w273 w274 w275 ⟨Nat.le_of_ble_eq_true rfl, Nat.le_of_ble_eq_true rfl⟩ rfl (Nat.le_of_ble_eq_true rfl) ⟨Nat.le_of_ble_eq_true rfl, Nat.le_of_ble_eq_true rfl⟩ dX5_comesLater_64 (fun v w p_5 => ?_)
      obtain ⟨rfl, rfl⟩ := p_5
      show V K sX5_comesLater 0 0 (fm (cO en c κ)) [some (.ref (c 1)), some (.int (zI i)), some (.ref (c (37 + 8 * Int.toNat i + Int.toNat j))), some (.int (zI bw)), some (.int (zI cw)), none] [.ref (c (33 + 8 * Int.toNat (P 5 (4 * i + j)))), .int (zI ((((P 7 (4 * i + j)) * bw) + ((P 8 (4 * i + j)) * cw)) + (P 10 i)))] 67
      refine VO_castS (33 + 8 * Int.toNat (P 5 (4 * i + j))) (at_sm ((hC).sm hM (by omega))) rfl w287 dX5_comesLater_67 ?_
      refine VO_getN (C0 := RX7) (T := TX7) (N := 5) (ci := 6) (fs := smF c κ (P 5 (4 * i + j))) (33 + 8 * Int.toNat (P 5 (4 * i + j))) 3 iwX7 (by decide) hK wn626 rfl (at_sm ((hC).sm hM (by omega))) rfl dX5_comesLater_70 ?_
      refine V_eqT (y := zI (P 10 (P 5 (4 * i + j)))) (congrArg zI (congrFun ((hC).1 10 (by decide) (by decide)) _)) ?_
      refine V_isub dX5_comesLater_73 ?_
      refine V_istore (L' := [some (.ref (c 1)), some (.int (zI i)), some (.ref (c (37 + 8 * Int.toNat i + Int.toNat j))), some (.int (zI bw)), some (.int (zI cw)), some (.int (zI (((((P 7 (4 * i + j)) * bw) + ((P 8 (4 * i + j)) * cw)) + (P 10 i)) - (P 10 (P 5 (4 * i + j))))))]) dX5_comesLater_74 (by decide) rfl ?_
      refine V_iload dX5_comesLater_76 rfl ?_
      refine V_if_eq (tgt := 92) dX5_comesLater_78 (by decide) ⟨by omega, by omega⟩ (fun c_6 => ?_) (fun c_6 => ?_)
      · refine V_iload_n dX5_comesLater_92 rfl ?_
        refine V_aload_n dX5_comesLater_93 rfl ?_
        refine VO_getN (C0 := RX6) (T := TX6) (N := 4) (ci := 5) (fs := rdF κ i j) (37 + 8 * Int.toNat i + Int.toNat j) 0 iwX6 (by decide) hK wn734 rfl (at_rd ((hC).rd hM (by omega) (by omega))) rfl dX5_comesLater_94 ?_
        refine V_eqT (y := zI (P 5 (4 * i + j))) (congrArg zI (congrFun ((hC).1 5 (by decide) (by decide)) _)) ?_
        refine V_icmp_eq (tgt := 114) dX5_comesLater_97 (by decide) ⟨⟨by omega, by omega⟩, ⟨by omega, by omega⟩⟩ (fun c_7 => ?_) (fun c_7 => ?_)
        · refine V_aload_n dX5_comesLater_114 rfl ?_
          refine VO_getN (C0 := RX6) (T := TX6) (N := 4) (ci := 5) (fs := rdF κ i j) (37 + 8 * Int.toNat i + Int.toNat j) 2 iwX6 (by decide) hK wn740 rfl (at_rd ((hC).rd hM (by omega) (by omega))) rfl dX5_comesLater_115 ?_
          refine V_eqT (y := zI (P 7 (4 * i + j))) (congrArg zI (congrFun ((hC).1 7 (by decide) (by decide)) _)) ?_
          refine V_if_gt (tgt := 135) dX5_comesLater_118 (by decide) ⟨by omega, by omega⟩ (fun c_8 => ?_) (fun c_8 => ?_)
          · refine V_iconst dX5_comesLater_135 ?_
            refine V_goto (tgt := 140) dX5_comesLater_136 (by decide) ?_
            show V K sX5_comesLater 0 0 (fm (cO en c κ)) _ [.int (zI (bz true))] 140
            refine V_zret hR rfl (Nat.le_of_ble_eq_true rfl) (Nat.le_of_ble_eq_true rfl) dX5_comesLater_140 ?_
            exact ⟨dcdT ((inO_iff hM hi hj).mpr (by unfold clP late dly; omega)), rfl⟩
          · refine V_aload_n dX5_comesLater_121 rfl ?_
            refine VO_getN (C0 := RX6) (T := TX6) (N := 4) (ci := 5) (fs := rdF κ i j) (37 + 8 * Int.toNat i + Int.toNat j) 2 iwX6 (by decide) hK wn740 rfl (at_rd ((hC).rd hM (by omega) (by omega))) rfl dX5_comesLater_122 ?_
            refine V_eqT (y := zI (P 7 (4 * i + j))) (congrArg zI (congrFun ((hC).1 7 (by decide) (by decide)) _)) ?_
            refine V_if_ne (tgt := 139) dX5_comesLater_125 (by decide) ⟨by omega, by omega⟩ (fun c_9 => ?_) (fun c_9 => ?_)
            · refine V_iconst dX5_comesLater_139 ?_
              show V K sX5_comesLater 0 0 (fm (cO en c κ)) _ [.int (zI (bz false))] 140
              refine V_zret hR rfl (Nat.le_of_ble_eq_true rfl) (Nat.le_of_ble_eq_true rfl) dX5_comesLater_140 ?_
              exact ⟨dcdF (fun h => by have h9 := (inO_iff hM hi hj).mp h; unfold clP late dly at h9; omega), rfl⟩
            · refine V_aload_n dX5_comesLater_128 rfl ?_
              refine VO_getN (C0 := RX6) (T := TX6) (N := 4) (ci := 5) (fs := rdF κ i j) (37 + 8 * Int.toNat i + Int.toNat j) 3 iwX6 (by decide) hK wn744 rfl (at_rd ((hC).rd hM (by omega) (by omega))) rfl dX5_comesLater_129 ?_
              refine V_eqT (y := zI (P 8 (4 * i + j))) (congrArg zI (congrFun ((hC).1 8 (by decide) (by decide)) _)) ?_
              refine V_if_le (tgt := 139) dX5_comesLater_132 (by decide) ⟨by omega, by omega⟩ (fun c_10 => ?_) (fun c_10 => ?_)
              · refine V_iconst dX5_comesLater_139 ?_
                show V K sX5_comesLater 0 0 (fm (cO en c κ)) _ [.int (zI (bz false))] 140
                refine V_zret hR rfl (Nat.le_of_ble_eq_true rfl) (Nat.le_of_ble_eq_true rfl) dX5_comesLater_140 ?_
                exact ⟨dcdF (fun h => by have h9 := (inO_iff hM hi hj).mp h; unfold clP late dly at h9; omega), rfl⟩
              · refine V_iconst dX5_comesLater_135 ?_
                refine V_goto (tgt := 140) dX5_comesLater_136 (by decide) ?_
                show V K sX5_comesLater 0 0 (fm (cO en c κ)) _ [.int (zI (bz true))] 140
                refine V_zret hR rfl (Nat.le_of_ble_eq_true rfl) (Nat.le_of_ble_eq_true rfl) dX5_comesLater_140 ?_
                exact ⟨dcdT ((inO_iff hM hi hj).mpr (by unfold clP late dly; omega)), rfl⟩
        · refine V_iload_n dX5_comesLater_100 rfl ?_
          refine V_aload_n dX5_comesLater_101 rfl ?_
          refine VO_getN (C0 := RX6) (T := TX6) (N := 4) (ci := 5) (fs := rdF κ i j) (37 + 8 * Int.toNat i + Int.toNat j) 0 iwX6 (by decide) hK wn734 rfl (at_rd ((hC).rd hM (by omega) (by omega))) rfl dX5_comesLater_102 ?_
          refine V_eqT (y := zI (P 5 (4 * i + j))) (congrArg zI (congrFun ((hC).1 5 (by decide) (by decide)) _)) ?_
          refine V_icmp_le (tgt := 112) dX5_comesLater_105 (by decide) ⟨⟨by omega, by omega⟩, ⟨by omega, by omega⟩⟩ (fun c_11 => ?_) (fun c_11 => ?_)
          · refine V_iconst dX5_comesLater_112 ?_
            show V K sX5_comesLater 0 0 (fm (cO en c κ)) _ [.int (zI (bz false))] 113
            refine V_zret hR rfl (Nat.le_of_ble_eq_true rfl) (Nat.le_of_ble_eq_true rfl) dX5_comesLater_113 ?_
            exact ⟨dcdF (fun h => by have h9 := (inO_iff hM hi hj).mp h; unfold clP late dly at h9; omega), rfl⟩
          · refine V_iconst dX5_comesLater_108 ?_
            refine V_goto (tgt := 113) dX5_comesLater_109 (by decide) ?_
            show V K sX5_comesLater 0 0 (fm (cO en c κ)) _ [.int (zI (bz true))] 113
            refine V_zret hR rfl (Nat.le_of_ble_eq_true rfl) (Nat.le_of_ble_eq_true rfl) dX5_comesLater_113 ?_
            exact ⟨dcdT ((inO_iff hM hi hj).mpr (by unfold clP late dly; omega)), rfl⟩
      · refine V_iload dX5_comesLater_81 rfl ?_
        refine V_if_le (tgt := 90) dX5_comesLater_83 (by decide) ⟨by omega, by omega⟩ (fun c_12 => ?_) (fun c_12 => ?_)
        · refine V_iconst dX5_comesLater_90 ?_
          show V K sX5_comesLater 0 0 (fm (cO en c κ)) _ [.int (zI (bz false))] 91
          refine V_zret hR rfl (Nat.le_of_ble_eq_true rfl) (Nat.le_of_ble_eq_true rfl) dX5_comesLater_91 ?_
          exact ⟨dcdF (fun h => by have h9 := (inO_iff hM hi hj).mp h; unfold clP late dly at h9; omega), rfl⟩
        · refine V_iconst dX5_comesLater_86 ?_
          refine V_goto (tgt := 91) dX5_comesLater_87 (by decide) ?_
          show V K sX5_comesLater 0 0 (fm (cO en c κ)) _ [.int (zI (bz true))] 91
          refine V_zret hR rfl (Nat.le_of_ble_eq_true rfl) (Nat.le_of_ble_eq_true rfl) dX5_comesLater_91 ?_
          exact ⟨dcdT ((inO_iff hM hi hj).mpr (by unfold clP late dly; omega)), rfl⟩
    · refine V_iconst dX5_comesLater_25 ?_
      show V K sX5_comesLater 0 0 (fm (cO en c κ)) _ [.int (zI (bz true))] 26
      refine V_zret hR rfl (Nat.le_of_ble_eq_true rfl) (Nat.le_of_ble_eq_true rfl) dX5_comesLater_26 ?_
      exact ⟨dcdT ((inO_iff hM hi hj).mpr (by unfold clP late dly; omega)), rfl⟩
set_option maxRecDepth 100000 in
set_option maxHeartbeats 4000000 in
theorem k_w5_allows (en : Nat → Nat) (c : Nat → Nat) (κ : St) (bw : Int) (cw : Int) (P : St) (hp : MI P ∧ CI P κ ∧ (0 ≤ bw ∧ bw ≤ 9) ∧ (0 ≤ cw ∧ cw ≤ 9)) : MC (EN en) yX5_allows sX5_allows [.ref (c 1), .int (zI bw), .int (zI cw)] (fm (cO en c κ)) (fun v w => v = some (.int (zI (bz (dcd (alw P bw cw))))) ∧ w = fm (cO en c κ)) := by
  refine MC.of (EN.stb en) [some (.ref (c 1)), some (.int (zI bw)), some (.int (zI cw)), none, none, none] 3 rfl rfl rfl (by simp [Value.category]) (Nat.le_of_ble_eq_true rfl) (fun K hK hR => ?_)
  obtain ⟨hM, hC, hp⟩ := hp
  have hN4 := hM.2.2.1
  obtain ⟨hb, hw⟩ := hp
  have loop_2 : ∀ (n0 : Nat) (n : Int), (P 0 2 - n).toNat = n0 → (0 ≤ n ∧ n ≤ P 0 2) → (∀ s j, 0 ≤ s → s < n → 0 ≤ j → j < P 4 s → inO P bw cw s j) → V K sX5_allows 0 0 (fm (cO en c κ)) [some (.ref (c 1)), some (.int (zI bw)), some (.int (zI cw)), some (.int (zI n)), none, none] [] 2 := by
    intro n0
    induction n0 using Nat.strongRecOn with
    | _ n0 ih_2 =>
    intro n hm_2 hn hA
    have loop_32 : ∀ (n0 : Nat) (i : Int), (P 4 n - i).toNat = n0 → (n < P 0 2) → (0 ≤ i ∧ i ≤ P 4 n) → (∀ j, 0 ≤ j → j < i → inO P bw cw n j) → V K sX5_allows 0 0 (fm (cO en c κ)) [some (.ref (c 1)), some (.int (zI bw)), some (.int (zI cw)), some (.int (zI n)), some (.ref (c (35 + 8 * Int.toNat n))), some (.int (zI i))] [] 32 := by
      intro n0
      induction n0 using Nat.strongRecOn with
      | _ n0 ih_32 =>
      intro i hm_32 hnn hi hI
      refine V_iload dX5_allows_32 rfl ?_
      have hr4 := hM.r4 (i := n) (by omega)
      refine V_aload dX5_allows_34 rfl ?_
      refine VO_callVF (As := []) (b := c (35 + 8 * Int.toNat n)) (i := 35 + 8 * Int.toNat n) (ci := 0) (fs := alF en c κ n) (T := TJx4a65c) (N := 3) (at_al ((hC).wn hM (by omega))) rfl hK (k_sizer en c κ n P ⟨hM, hC, by first | assumption | omega | exact ⟨by omega, by omega⟩ | exact ⟨⟨by omega, by omega⟩, by omega, by omega⟩ | exact ⟨⟨by omega, by omega⟩, ⟨by omega, by omega⟩⟩ | exact ⟨⟨by omega, by omega⟩, ⟨by omega, by omega⟩, by omega, by omega⟩⟩) mokJx4a65c_size_8abf5 w269 w270 w271 ⟨Nat.le_of_ble_eq_true rfl, Nat.le_of_ble_eq_true rfl⟩ rfl (Nat.le_of_ble_eq_true rfl) ⟨Nat.le_of_ble_eq_true rfl, Nat.le_of_ble_eq_true rfl⟩ dX5_allows_36 (fun v w p_1 => ?_)
      obtain ⟨rfl, rfl⟩ := p_1
      show V K sX5_allows 0 0 (fm (cO en c κ)) [some (.ref (c 1)), some (.int (zI bw)), some (.int (zI cw)), some (.int (zI n)), some (.ref (c (35 + 8 * Int.toNat n))), some (.int (zI i))] [.int (zI (P 4 n)), .int (zI i)] 39
      refine V_icmp_ge (tgt := 70) dX5_allows_39 (by decide) ⟨⟨by omega, by omega⟩, ⟨by omega, by omega⟩⟩ (fun c_2 => ?_) (fun c_2 => ?_)
      · refine V_iinc (L' := [some (.ref (c 1)), some (.int (zI bw)), some (.int (zI cw)), some (.int (zI (n + 1))), some (.ref (c (35 + 8 * Int.toNat n))), some (.int (zI i))]) dX5_allows_70 (by decide) rfl rfl ?_
        refine V_goto (tgt := 2) dX5_allows_73 (by decide) ?_
        refine V_mask (L' := [some (.ref (c 1)), some (.int (zI bw)), some (.int (zI cw)), some (.int (zI (n + 1))), none, none]) [true, true, true, true, false, false] rfl ?_
        refine ih_2 _ (by omega) (n + 1) rfl ?_ ?_
        · omega
        · exact fun s j a b c d => by
            by_cases e : s = n
            · rw [e] at d ⊢; exact hI j c (by omega)
            · exact hA s j a (by omega) c d
      · refine V_aload_n dX5_allows_42 rfl ?_
        refine V_iload_n dX5_allows_43 rfl ?_
        refine V_aload dX5_allows_44 rfl ?_
        refine V_iload dX5_allows_46 rfl ?_
        refine VO_callVF (As := [.int (zI i)]) (b := c (35 + 8 * Int.toNat n)) (i := 35 + 8 * Int.toNat n) (ci := 0) (fs := alF en c κ n) (T := TJx4a65c) (N := 3) (at_al ((hC).wn hM (by omega))) rfl hK (k_getr en c κ n i P ⟨hM, hC, by first | assumption | omega | exact ⟨by omega, by omega⟩ | exact ⟨⟨by omega, by omega⟩, by omega, by omega⟩ | exact ⟨⟨by omega, by omega⟩, ⟨by omega, by omega⟩⟩ | exact ⟨⟨by omega, by omega⟩, ⟨by omega, by omega⟩, by omega, by omega⟩⟩) mokJx4a65c_get_915e3 w273 w274 w275 ⟨Nat.le_of_ble_eq_true rfl, Nat.le_of_ble_eq_true rfl⟩ rfl (Nat.le_of_ble_eq_true rfl) ⟨Nat.le_of_ble_eq_true rfl, Nat.le_of_ble_eq_true rfl⟩ dX5_allows_48 (fun v w p_3 => ?_)
        obtain ⟨rfl, rfl⟩ := p_3
        show V K sX5_allows 0 0 (fm (cO en c κ)) [some (.ref (c 1)), some (.int (zI bw)), some (.int (zI cw)), some (.int (zI n)), some (.ref (c (35 + 8 * Int.toNat n))), some (.int (zI i))] [.ref (c (37 + 8 * Int.toNat n + Int.toNat i)), .int (zI n), .ref (c 1)] 51
        refine VO_castS (37 + 8 * Int.toNat n + Int.toNat i) (at_rd ((hC).rd hM (by omega) (by omega))) rfl w288 dX5_allows_51 ?_
        refine V_iload_n dX5_allows_54 rfl ?_
        refine V_iload_n dX5_allows_55 rfl ?_
        refine VO_callVF (As := [.int (zI n), .ref (c (37 + 8 * Int.toNat n + Int.toNat i)), .int (zI bw), .int (zI cw)]) (b := c 1) (i := 1) (ci := 4) (fs := prF c κ) (T := TX5) (N := 4) (at_pr) rfl hK (k_w5_comesLater en c κ n i bw cw P ⟨hM, hC, ⟨by omega, by omega⟩, ⟨by omega, by omega⟩, hb, hw⟩) mokX5_comesLater w289 w290 w291 ⟨Nat.le_of_ble_eq_true rfl, Nat.le_of_ble_eq_true rfl⟩ rfl (Nat.le_of_ble_eq_true rfl) ⟨Nat.le_of_ble_eq_true rfl, Nat.le_of_ble_eq_true rfl⟩ dX5_allows_56 (fun v w p_4 => ?_)
        obtain ⟨rfl, rfl⟩ := p_4
        show V K sX5_allows 0 0 (fm (cO en c κ)) [some (.ref (c 1)), some (.int (zI bw)), some (.int (zI cw)), some (.int (zI n)), some (.ref (c (35 + 8 * Int.toNat n))), some (.int (zI i))] [.int (zI (bz (dcd (inO P bw cw n i))))] 59
        refine V_ifc_ne (tgt := 64) dX5_allows_59 (by decide) (fun c_5 => ?_) (fun c_5 => ?_)
        · refine V_iinc (L' := [some (.ref (c 1)), some (.int (zI bw)), some (.int (zI cw)), some (.int (zI n)), some (.ref (c (35 + 8 * Int.toNat n))), some (.int (zI (i + 1)))]) dX5_allows_64 (by decide) rfl rfl ?_
          refine V_goto (tgt := 32) dX5_allows_67 (by decide) ?_
          refine ih_32 _ (by omega) (i + 1) rfl ?_ ?_ ?_
          · omega
          · omega
          · exact fun j a b => by
              by_cases e : j = i
              · rw [e]; exact c_5
              · exact hI j a (by omega)
        · refine V_iconst dX5_allows_62 ?_
          show V K sX5_allows 0 0 (fm (cO en c κ)) _ [.int (zI (bz false))] 63
          refine V_zret hR rfl (Nat.le_of_ble_eq_true rfl) (Nat.le_of_ble_eq_true rfl) dX5_allows_63 ?_
          exact ⟨dcdF (fun h => c_5 (h n (by omega) (by omega) i (by omega) (by omega))), rfl⟩
    have seg_32 : ∀ (i : Int), (n < P 0 2) → (0 ≤ i ∧ i ≤ P 4 n) → (∀ j, 0 ≤ j → j < i → inO P bw cw n j) → V K sX5_allows 0 0 (fm (cO en c κ)) [some (.ref (c 1)), some (.int (zI bw)), some (.int (zI cw)), some (.int (zI n)), some (.ref (c (35 + 8 * Int.toNat n))), some (.int (zI i))] [] 32 := fun i hnn hi hI => loop_32 _ i rfl hnn hi hI
    refine V_iload_n dX5_allows_2 rfl ?_
    refine V_aload_n dX5_allows_3 rfl ?_
    refine VO_getf (C0 := RX5) (T := TX5) (N := 4) (ci := 4) (fs := prF c κ) 1 0 iwX5 (by decide) w68 (Or.inl rfl) rfl (at_pr) rfl dX5_allows_4 ?_
    show V K sX5_allows 0 0 (fm (cO en c κ)) [some (.ref (c 1)), some (.int (zI bw)), some (.int (zI cw)), some (.int (zI n)), none, none] [.ref (c (35 + 8 * Int.toNat 4)), .int (zI n)] 7
    refine VO_callVF (As := []) (b := c (35 + 8 * Int.toNat 4)) (i := 35 + 8 * Int.toNat 4) (ci := 0) (fs := alF en c κ 4) (T := TJx4a65c) (N := 3) (at_al (CI.w4 _)) rfl hK (k_size4 en c κ P ⟨hM, hC⟩) mokJx4a65c_size_8abf5 w269 w270 w271 ⟨Nat.le_of_ble_eq_true rfl, Nat.le_of_ble_eq_true rfl⟩ rfl (Nat.le_of_ble_eq_true rfl) ⟨Nat.le_of_ble_eq_true rfl, Nat.le_of_ble_eq_true rfl⟩ dX5_allows_7 (fun v w p_6 => ?_)
    obtain ⟨rfl, rfl⟩ := p_6
    show V K sX5_allows 0 0 (fm (cO en c κ)) [some (.ref (c 1)), some (.int (zI bw)), some (.int (zI cw)), some (.int (zI n)), none, none] [.int (zI (P 0 2)), .int (zI n)] 10
    refine V_icmp_ge (tgt := 76) dX5_allows_10 (by decide) ⟨⟨by omega, by omega⟩, ⟨by omega, by omega⟩⟩ (fun c_7 => ?_) (fun c_7 => ?_)
    · refine V_iconst dX5_allows_76 ?_
      show V K sX5_allows 0 0 (fm (cO en c κ)) _ [.int (zI (bz true))] 77
      refine V_zret hR rfl (Nat.le_of_ble_eq_true rfl) (Nat.le_of_ble_eq_true rfl) dX5_allows_77 ?_
      exact ⟨dcdT (fun s a b j c d => hA s j a (by omega) c d), rfl⟩
    · have hr4 := hM.r4 (i := n) (by omega)
      refine V_aload_n dX5_allows_13 rfl ?_
      refine VO_getf (C0 := RX5) (T := TX5) (N := 4) (ci := 4) (fs := prF c κ) 1 0 iwX5 (by decide) w68 (Or.inl rfl) rfl (at_pr) rfl dX5_allows_14 ?_
      show V K sX5_allows 0 0 (fm (cO en c κ)) [some (.ref (c 1)), some (.int (zI bw)), some (.int (zI cw)), some (.int (zI n)), none, none] [.ref (c (35 + 8 * Int.toNat 4))] 17
      refine V_iload_n dX5_allows_17 rfl ?_
      refine VO_callVF (As := [.int (zI n)]) (b := c (35 + 8 * Int.toNat 4)) (i := 35 + 8 * Int.toNat 4) (ci := 0) (fs := alF en c κ 4) (T := TJx4a65c) (N := 3) (at_al (CI.w4 _)) rfl hK (k_get4 en c κ n P ⟨hM, hC, by first | assumption | omega | exact ⟨by omega, by omega⟩ | exact ⟨⟨by omega, by omega⟩, by omega, by omega⟩ | exact ⟨⟨by omega, by omega⟩, ⟨by omega, by omega⟩⟩ | exact ⟨⟨by omega, by omega⟩, ⟨by omega, by omega⟩, by omega, by omega⟩⟩) mokJx4a65c_get_915e3 w273 w274 w275 ⟨Nat.le_of_ble_eq_true rfl, Nat.le_of_ble_eq_true rfl⟩ rfl (Nat.le_of_ble_eq_true rfl) ⟨Nat.le_of_ble_eq_true rfl, Nat.le_of_ble_eq_true rfl⟩ dX5_allows_18 (fun v w p_8 => ?_)
      obtain ⟨rfl, rfl⟩ := p_8
      show V K sX5_allows 0 0 (fm (cO en c κ)) [some (.ref (c 1)), some (.int (zI bw)), some (.int (zI cw)), some (.int (zI n)), none, none] [.ref (c (33 + 8 * Int.toNat n))] 21
      refine VO_castS (33 + 8 * Int.toNat n) (at_sm ((hC).sm hM (by omega))) rfl w287 dX5_allows_21 ?_
      refine VO_getN (C0 := RX7) (T := TX7) (N := 5) (ci := 6) (fs := smF c κ n) (33 + 8 * Int.toNat n) 1 iwX7 (by decide) hK wn619 rfl (at_sm ((hC).sm hM (by omega))) rfl dX5_allows_24 ?_
      refine V_astore (L' := [some (.ref (c 1)), some (.int (zI bw)), some (.int (zI cw)), some (.int (zI n)), some (.ref (c (35 + 8 * Int.toNat n))), none]) dX5_allows_27 (by decide) rfl ?_
      refine V_iconst dX5_allows_29 ?_
      refine V_istore (L' := [some (.ref (c 1)), some (.int (zI bw)), some (.int (zI cw)), some (.int (zI n)), some (.ref (c (35 + 8 * Int.toNat n))), some (.int (zI 0))]) dX5_allows_30 (by decide) rfl ?_
      refine seg_32 0 ?_ ?_ ?_
      · omega
      · omega
      · exact fun j a b => absurd b (by omega)
  have seg_2 : ∀ (n : Int), (0 ≤ n ∧ n ≤ P 0 2) → (∀ s j, 0 ≤ s → s < n → 0 ≤ j → j < P 4 s → inO P bw cw s j) → V K sX5_allows 0 0 (fm (cO en c κ)) [some (.ref (c 1)), some (.int (zI bw)), some (.int (zI cw)), some (.int (zI n)), none, none] [] 2 := fun n hn hA => loop_2 _ n rfl hn hA
  refine V_iconst dX5_allows_0 ?_
  refine V_istore_n (L' := [some (.ref (c 1)), some (.int (zI bw)), some (.int (zI cw)), some (.int (zI 0)), none, none]) dX5_allows_1 (by decide) rfl ?_
  refine seg_2 0 ?_ ?_
  · omega
  · exact fun s j a b => absurd b (by omega)
set_option maxRecDepth 100000 in
set_option maxHeartbeats 4000000 in
theorem k_w5_spread (en : Nat → Nat) (c : Nat → Nat) (κ : St) (x : Int) (y : Int) : MC (EN en) yX5_spread sX5_spread [.ref (c 1), .int (zI x), .int (zI y)] (fm (cO en c κ)) (fun v w => v = none ∧ w = fm (cO en c (up (up (up κ 0 0 x) 0 1 y) 49 0 (x * y)))) := by
  refine MC.of (EN.stb en) [some (.ref (c 1)), some (.int (zI x)), some (.int (zI y))] 0 rfl rfl rfl (by simp [Value.category]) (Nat.le_of_ble_eq_true rfl) (fun K hK hR => ?_)
  refine V_aload_n dX5_spread_0 rfl ?_
  refine V_iload_n dX5_spread_1 rfl ?_
  refine VO_putf (C0 := RX5) (T := TX5) (N := 4) (ci := 4) (fs := prF c κ) 1 1 iwX5 (by decide) w72 (Or.inl rfl) tyX5 tyX5_ok nmX5 rfl rfl (at_pr) (Nat.le_of_ble_eq_true rfl) rfl rfl dX5_spread_2 (st_pr_rows x) ?_
  refine V_aload_n dX5_spread_5 rfl ?_
  refine V_iload_n dX5_spread_6 rfl ?_
  refine VO_putf (C0 := RX5) (T := TX5) (N := 4) (ci := 4) (fs := prF c (up κ 0 0 x)) 1 2 iwX5 (by decide) w75 (Or.inl rfl) tyX5 tyX5_ok nmX5 rfl rfl (at_pr) (Nat.le_of_ble_eq_true rfl) rfl rfl dX5_spread_7 (st_pr_columns y) ?_
  refine V_aload_n dX5_spread_10 rfl ?_
  refine V_iload_n dX5_spread_11 rfl ?_
  refine V_iload_n dX5_spread_12 rfl ?_
  refine V_imul dX5_spread_13 ?_
  refine VO_putf (C0 := RX5) (T := TX5) (N := 4) (ci := 4) (fs := prF c (up (up κ 0 0 x) 0 1 y)) 1 3 iwX5 (by decide) w80 (Or.inl rfl) tyX5 tyX5_ok nmX5 rfl rfl (at_pr) (Nat.le_of_ble_eq_true rfl) rfl rfl dX5_spread_14 (st_pr_points (x * y)) ?_
  refine V_vret hR rfl (Nat.le_of_ble_eq_true rfl) (Nat.le_of_ble_eq_true rfl) dX5_spread_17 ?_
  exact ⟨rfl, rfl⟩

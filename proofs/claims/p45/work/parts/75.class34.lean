/-! the class: a window is right -/
theorem tm_em {a b m : Int} : Int.tmod (b - a) m = 0 ↔ a % m = b % m := by
  rw [← Int.dvd_iff_tmod_eq_zero]
  constructor
  · intro h
    exact (Int.emod_eq_emod_iff_emod_sub_eq_zero.mpr (Int.emod_eq_zero_of_dvd h)).symm
  · intro h
    exact Int.dvd_of_emod_eq_zero (Int.emod_eq_emod_iff_emod_sub_eq_zero.mp h.symm)
theorem two_pl {x y x2 y2 b : Int} (h1 : 0 ≤ y ∧ y < b) (h2 : 0 ≤ y2 ∧ y2 < b) (h : x * b + y = x2 * b + y2) : x = x2 ∧ y = y2 := by
  have e1 : (x * b + y) / b = x := by rw [Int.add_comm, Int.add_mul_ediv_right _ _ (by omega), Int.ediv_eq_zero_of_lt h1.1 h1.2]; omega
  have e2 : (x2 * b + y2) / b = x2 := by rw [Int.add_comm, Int.add_mul_ediv_right _ _ (by omega), Int.ediv_eq_zero_of_lt h2.1 h2.2]; omega
  have e3 : x = x2 := by rw [← e1, ← e2, h]
  rw [e3] at h
  exact ⟨e3, by omega⟩
theorem ka_plc {P κ : St} (hM : MI P) {s u v : Int} (hs : 0 ≤ s ∧ s < P 0 2) (h : WR1 P κ s) (hu : 0 ≤ u) (huv : u < v) (hv : v < pt P) : kaP κ s (dR P u v) (dC P u v) (P 0 1) ↔ plc P s u ≠ plc P s v := by
  obtain ⟨⟨h1, h2, h3, h4⟩, hb⟩ := h
  have hw := hM.mw hs.1 (by have := hM.2.2.1; omega)
  have hd := (d_b hM hu huv hv).2.2.1
  unfold kaP plc
  rw [h1]
  rcases hw with hw | ⟨hw, w1⟩ | ⟨hw, w1⟩ | ⟨hw, w1⟩
  · rw [if_neg (by omega), if_neg (by omega), if_neg (by omega), if_pos hw, if_pos hw]
    constructor
    · intro _; omega
    · intro _
      by_cases e : dR P u v = 0
      · rw [e] at hd; right; omega
      · exact Or.inl e
  · rw [if_pos hw, if_neg (by omega), if_pos hw, if_neg (by omega), if_pos hw, h2 hw, rs_f (by omega), hd]
    exact not_congr tm_em
  · rw [if_neg (by omega), if_pos hw, if_neg (by omega), if_neg (by omega), if_pos hw, if_neg (by omega), if_neg (by omega), if_pos hw, (h3 hw).1, (h3 hw).2, rs_f (by omega), rs_f (by omega)]
    have t1 : Int.tmod (dR P u v) (P 14 s) = 0 ↔ u / P 0 1 % P 14 s = v / P 0 1 % P 14 s := tm_em
    have t2 : Int.tmod (dC P u v) (P 15 s) = 0 ↔ u % P 0 1 % P 15 s = v % P 0 1 % P 15 s := tm_em
    constructor
    · intro hk e
      obtain ⟨e1, e2⟩ := two_pl ⟨Int.emod_nonneg _ (by omega), Int.emod_lt_of_pos _ (by omega)⟩ ⟨Int.emod_nonneg _ (by omega), Int.emod_lt_of_pos _ (by omega)⟩ e
      rcases hk with z | z
      · exact z (t1.mpr e1)
      · exact z (t2.mpr e2)
    · intro hk
      by_cases z : Int.tmod (dR P u v) (P 14 s) = 0
      · right
        intro z2
        exact hk (by rw [t1.mp z, t2.mp z2])
      · exact Or.inl z
  · rw [if_neg (by omega), if_neg (by omega), if_pos hw, if_neg (by omega), if_neg (by omega), if_neg (by omega), if_neg (by omega), if_neg (by omega), if_neg (by omega), (h4 hw).1, (h4 hw).2, rs_f (by omega)]
    have e : dR P u v + dC P u v * P 14 s = (v / P 0 1 + v % P 0 1 * P 14 s) - (u / P 0 1 + u % P 0 1 * P 14 s) := by
      unfold dR dC
      rw [Int.sub_mul]
      omega
    rw [e]
    exact not_congr tm_em
theorem ka_wR {P κ : St} (hM : MI P) {s : Int} (hs : 0 ≤ s ∧ s < P 0 2) (h : WR1 P κ s) : (∀ r d, gD P (P 0 11) (P 0 12) s s noD r d → kaP κ s r d (P 0 1)) ↔ wR P s := by
  constructor
  · intro g u v hd
    exact (ka_plc hM hs h hd.1 hd.2.1 hd.2.2.1).mp (g _ _ (gD_iff.mpr ⟨u, v, hd, rfl, rfl⟩))
  · intro g r d hrd
    obtain ⟨x, y, hxy, rfl, rfl⟩ := gD_iff.mp hrd
    exact (ka_plc hM hs h hxy.1 hxy.2.1 hxy.2.2.1).mpr (g x y hxy)
theorem bz_dcd {p q : Prop} (h : p ↔ q) : bz (dcd p) = bz (dcd q) := by rw [propext h]
set_option maxRecDepth 100000 in
set_option maxHeartbeats 4000000 in
theorem k_isRight (en : Nat → Nat) (c : Nat → Nat) (κ : St) (s : Int) (P : St) (hp : MI P ∧ CI P κ ∧ iR s ∧ WR P κ ∧ WB κ 4) : MCX (EN en) yX10_isRight sX10_isRight [.ref (c 0), .int (zI s)] (fm (cO en c κ)) (fun v w => ∃ κ2 : St, v = some (.int (zI ((sp_isRight P s).2.1))) ∧ w = fm (cO en c κ2) ∧ ((sp_isRight P s).1 = 0) ∧ (CWP (sp_isRight P s).2.2 κ2)) (XP1 en c (sp_isRight P s) P [(1, IOBs)]) := by
  refine MCX.of (EN.stb en) [some (.ref (c 0)), some (.int (zI s))] 0 rfl rfl rfl (by simp [Value.category]) (Nat.le_of_ble_eq_true rfl) (fun K hK hR hX => ?_)
  obtain ⟨hM, hC, hp⟩ := hp
  have hN4 := hM.2.2.1
  obtain ⟨hr_s, hW, hW4⟩ := hp
  have hCW : CWP P κ := ⟨hC, hW, hW4⟩
  unfold iR at hr_s
  refine V_aload_n dX10_isRight_0 rfl ?_
  refine V_iload_n dX10_isRight_1 rfl ?_
  refine VO_callXVF (As := [.int (zI s)]) (b := c 0) (i := 0) (ci := 9) (fs := cwF c κ) (T := TX10) (N := 9) (at_cw) rfl hK (k_requireStatement en c κ s P ⟨hM, hC, hr_s⟩) mokX10_requireStatement w704 w706 wps1_1 ⟨Nat.le_of_ble_eq_true rfl, Nat.le_of_ble_eq_true rfl⟩ rfl (Nat.le_of_ble_eq_true rfl) ⟨Nat.le_of_ble_eq_true rfl, Nat.le_of_ble_eq_true rfl⟩ dX10_isRight_2 hX (fun X w h => XP1.of (gd_f h.2.2) h.1 (by decide) h.2.1 hCW) (Nat.le_of_ble_eq_true rfl) (Nat.le_of_ble_eq_true rfl) (fun v w p_1 => ?_)
  obtain ⟨rfl, rfl, q_2⟩ := p_1
  show V K sX10_isRight 1 6 (fm (cO en c κ)) [some (.ref (c 0)), some (.int (zI s))] [] 5
  refine V_aload_n dX10_isRight_5 rfl ?_
  refine VO_callVF (As := []) (b := c 0) (i := 0) (ci := 9) (fs := cwF c κ) (T := TX10) (N := 9) (at_cw) rfl hK (k_arranged en c κ P ⟨hM, hC⟩) mokX10_arranged w312 w314 wps0_0 ⟨Nat.le_of_ble_eq_true rfl, Nat.le_of_ble_eq_true rfl⟩ rfl (Nat.le_of_ble_eq_true rfl) ⟨Nat.le_of_ble_eq_true rfl, Nat.le_of_ble_eq_true rfl⟩ dX10_isRight_6 (fun v w p_3 => ?_)
  obtain ⟨κ_4, rfl, rfl, q_5, q_6, q_7⟩ := p_3
  show V K sX10_isRight 1 6 (fm (cO en c κ_4)) [some (.ref (c 0)), some (.int (zI s))] [.ref (c 2)] 9
  refine V_pop dX10_isRight_9 rfl ?_
  refine V_aload_n dX10_isRight_10 rfl ?_
  refine V_iload_n dX10_isRight_11 rfl ?_
  refine VO_callVF (As := [.int (zI s)]) (b := c 0) (i := 0) (ci := 9) (fs := cwF c κ_4) (T := TX10) (N := 9) (at_cw) rfl hK (k_gatherDifferences en c κ_4 s P (P 0 11) (P 0 12) ⟨hM, q_5, q_6, q_2⟩) mokX10_gatherDifferences w365 w367 wps0_5 ⟨Nat.le_of_ble_eq_true rfl, Nat.le_of_ble_eq_true rfl⟩ rfl (Nat.le_of_ble_eq_true rfl) ⟨Nat.le_of_ble_eq_true rfl, Nat.le_of_ble_eq_true rfl⟩ dX10_isRight_12 (fun v w p_8 => ?_)
  obtain ⟨κ_9, rfl, rfl, q_10, q_11, q_12⟩ := p_8
  show V K sX10_isRight 1 6 (fm (cO en c κ_9)) [some (.ref (c 0)), some (.int (zI s))] [] 15
  have hCh := (hCW.fr q_7 (by decide)).fr q_12 (by decide)
  refine V_aload_n dX10_isRight_15 rfl ?_
  refine VO_getf (C0 := RX10) (T := TX10) (N := 9) (ci := 9) (fs := cwF c κ_9) 0 2 iwX10 (by decide) w235 (Or.inl rfl) rfl (at_cw) rfl dX10_isRight_16 ?_
  refine V_aload_n dX10_isRight_19 rfl ?_
  refine VO_getf (C0 := RX10) (T := TX10) (N := 9) (ci := 9) (fs := cwF c κ_9) 0 0 iwX10 (by decide) w233 (Or.inl rfl) rfl (at_cw) rfl dX10_isRight_20 ?_
  refine VO_getN (C0 := RX5) (T := TX5) (N := 4) (ci := 4) (fs := prF c κ_9) 1 0 iwX5 (by decide) hK wn69 rfl (at_pr) rfl dX10_isRight_23 ?_
  show V K sX10_isRight 1 6 (fm (cO en c κ_9)) [some (.ref (c 0)), some (.int (zI s))] [.ref (c (35 + 8 * Int.toNat 4)), .ref (c 12)] 26
  refine V_iload_n dX10_isRight_26 rfl ?_
  refine VO_callVF (As := [.int (zI s)]) (b := c (35 + 8 * Int.toNat 4)) (i := 35 + 8 * Int.toNat 4) (ci := 0) (fs := alF en c κ_9 4) (T := TJx4a65c) (N := 3) (at_al (CI.w4 _)) rfl hK (k_get4 en c κ_9 s P ⟨hM, q_10, by first | assumption | omega | exact ⟨by omega, by omega⟩ | exact ⟨⟨by omega, by omega⟩, by omega, by omega⟩ | exact ⟨⟨by omega, by omega⟩, ⟨by omega, by omega⟩⟩ | exact ⟨⟨by omega, by omega⟩, ⟨by omega, by omega⟩, by omega, by omega⟩⟩) mokJx4a65c_get_915e3 w390 w274 w275 ⟨Nat.le_of_ble_eq_true rfl, Nat.le_of_ble_eq_true rfl⟩ rfl (Nat.le_of_ble_eq_true rfl) ⟨Nat.le_of_ble_eq_true rfl, Nat.le_of_ble_eq_true rfl⟩ dX10_isRight_27 (fun v w p_13 => ?_)
  obtain ⟨rfl, rfl⟩ := p_13
  show V K sX10_isRight 1 6 (fm (cO en c κ_9)) [some (.ref (c 0)), some (.int (zI s))] [.ref (c (33 + 8 * Int.toNat s)), .ref (c 12)] 30
  refine VO_castS (33 + 8 * Int.toNat s) (at_sm ((q_10).sm hM (by omega))) rfl w391 dX10_isRight_30 ?_
  refine VO_getN (C0 := RX7) (T := TX7) (N := 5) (ci := 6) (fs := smF c κ_9 s) (33 + 8 * Int.toNat s) 2 iwX7 (by decide) hK wn622 rfl (at_sm ((q_10).sm hM (by omega))) rfl dX10_isRight_33 ?_
  refine VO_callVF (As := [.ref (c (34 + 8 * Int.toNat s))]) (b := c 12) (i := 12) (ci := 2) (fs := dfF c κ_9) (T := TX2) (N := 7) (at_df) rfl hK (k_w2_areKeptApart en c κ_9 s P (gD P (P 0 11) (P 0 12) s s noD) ⟨hM, q_10, q_11, (q_10).wn hM q_2, (hCh.2.1 s q_2.1 q_2.2).2⟩) mokX2_areKeptApart w944 w411 w412 ⟨Nat.le_of_ble_eq_true rfl, Nat.le_of_ble_eq_true rfl⟩ rfl (Nat.le_of_ble_eq_true rfl) ⟨Nat.le_of_ble_eq_true rfl, Nat.le_of_ble_eq_true rfl⟩ dX10_isRight_36 (fun v w p_14 => ?_)
  obtain ⟨rfl, rfl⟩ := p_14
  show V K sX10_isRight 1 6 (fm (cO en c κ_9)) [some (.ref (c 0)), some (.int (zI s))] [.int (zI (bz (dcd (∀ r d, (gD P (P 0 11) (P 0 12) s s noD) r d → kaP κ_9 s r d (P 0 1)))))] 39
  refine V_zret hR rfl (Nat.le_of_ble_eq_true rfl) (Nat.le_of_ble_eq_true rfl) dX10_isRight_39 ?_
  exact pubC (sp := sp_isRight P s) (gd_t q_2) (ziE (bz_dcd (ka_wR hM q_2 (hCh.2.1 s q_2.1 q_2.2)))) hCh

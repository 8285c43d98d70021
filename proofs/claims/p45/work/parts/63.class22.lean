/-! the class: values written, by a run to the cell's step -/
set_option maxRecDepth 100000 in
set_option maxHeartbeats 4000000 in
theorem k_valueWritten (en : Nat → Nat) (c : Nat → Nat) (κ : St) (m : Int) (k : Int) (P : St) (hp : MI P ∧ CI P κ ∧ (0 ≤ m ∧ m ≤ 1) ∧ (0 ≤ k ∧ k < al P) ∧ WR P κ) : MC (EN en) yX10_valueWritten sX10_valueWritten [.ref (c 0), .ref (c (18 + 6 * Int.toNat m)), .int (zI k)] (fm (cO en c κ)) (fun v w => ∃ κ2 : St, v = some (.int (zI (VL P (P 0 11) (P 0 12) m k))) ∧ w = fm (cO en c κ2) ∧ (CI P κ2) ∧ (fr [50, 51, 52, 53, 54, 55, 56, 57, 58, 70, 71, 72, 73, 74, 75, 76, 77] κ κ2)) := by
  refine MC.of (EN.stb en) [some (.ref (c 0)), some (.ref (c (18 + 6 * Int.toNat m))), some (.int (zI k)), none, none] 2 rfl rfl rfl (by simp [Value.category]) (Nat.le_of_ble_eq_true rfl) (fun K hK hR => ?_)
  obtain ⟨hM, hC, hp⟩ := hp
  have hN4 := hM.2.2.1
  obtain ⟨hm, hk, hW⟩ := hp
  obtain ⟨κ0, hκ0⟩ : ∃ κ0 : St, κ0 = κ := ⟨κ, rfl⟩
  have hF : fr [50, 51, 52, 53, 54, 55, 56, 57, 58, 70, 71, 72, 73, 74, 75, 76, 77] κ0 κ := by rw [hκ0]; exact fr.rf _ _
  rw [← hκ0] at hW
  have hal := hM.als
  have hbb := bt_b (bw := P 0 11) (cw := P 0 12) hk.1 hk.2
  have loop_14 : ∀ (n0 : Nat) (κ : St) (v : Int) (t : Int), (bt P (P 0 11) (P 0 12) k + 1 - t).toNat = n0 → (CI P κ) → (fr [50, 51, 52, 53, 54, 55, 56, 57, 58, 70, 71, 72, 73, 74, 75, 76, 77] κ0 κ) → (Arr P (P 0 11) (P 0 12) κ) → (KV m (GS P (P 0 11) (P 0 12) m t) κ) → (0 ≤ t ∧ t ≤ bt P (P 0 11) (P 0 12) k + 1) → (0 < t → v = VL P (P 0 11) (P 0 12) m (ac P (P 0 11) (P 0 12) (t - 1))) → V K sX10_valueWritten 0 0 (fm (cO en c κ)) [some (.ref (c 0)), some (.ref (c (18 + 6 * Int.toNat m))), some (.int (zI k)), some (.int (zI v)), some (.int (zI t))] [] 14 := by
    intro n0
    induction n0 using Nat.strongRecOn with
    | _ n0 ih_14 =>
    intro κ v t hm_14 hC hF hA hKV ht hv
    refine V_iload dX10_valueWritten_14 rfl ?_
    refine V_aload_n dX10_valueWritten_16 rfl ?_
    refine VO_getf (C0 := RX10) (T := TX10) (N := 9) (ci := 9) (fs := cwF c κ) 0 1 iwX10 (by decide) w234 (Or.inl rfl) rfl (at_cw) rfl dX10_valueWritten_17 ?_
    refine VO_getN (C0 := RX9) (T := TX9) (N := 10) (ci := 8) (fs := wkF c κ) 2 3 iwX9 (by decide) hK wn107 rfl (at_wk) rfl dX10_valueWritten_20 ?_
    refine V_iload_n dX10_valueWritten_23 rfl ?_
    refine VO_iald 6 at_wk_birth ⟨by omega, by omega⟩ (by decide) dX10_valueWritten_24 ?_
    refine V_eqT (y := zI (bt P (P 0 11) (P 0 12) k)) (congrArg zI (hA.2.1 k hk.1 hk.2).2.1) ?_
    refine V_icmp_gt (tgt := 57) dX10_valueWritten_25 (by decide) ⟨⟨by omega, by omega⟩, ⟨by omega, by omega⟩⟩ (fun c_1 => ?_) (fun c_1 => ?_)
    · refine V_iload_n dX10_valueWritten_57 rfl ?_
      refine V_iret hR rfl (Nat.le_of_ble_eq_true rfl) (Nat.le_of_ble_eq_true rfl) dX10_valueWritten_58 ?_
      exact ⟨κ, ziE (by rw [hv (by omega), show t - 1 = bt P (P 0 11) (P 0 12) k by omega, ac_bt hk.1 hk.2]), rfl, hC, by rw [← hκ0]; exact hF⟩
    · have htl : t < al P := by omega
      have hac := ac_spec (P := P) (bw := P 0 11) (cw := P 0 12) ht.1 htl
      refine V_aload_n dX10_valueWritten_28 rfl ?_
      refine V_aload_n dX10_valueWritten_29 rfl ?_
      refine VO_getf (C0 := RX10) (T := TX10) (N := 9) (ci := 9) (fs := cwF c κ) 0 0 iwX10 (by decide) w233 (Or.inl rfl) rfl (at_cw) rfl dX10_valueWritten_30 ?_
      refine V_aload_n dX10_valueWritten_33 rfl ?_
      refine VO_getf (C0 := RX10) (T := TX10) (N := 9) (ci := 9) (fs := cwF c κ) 0 1 iwX10 (by decide) w234 (Or.inl rfl) rfl (at_cw) rfl dX10_valueWritten_34 ?_
      refine V_aload_n dX10_valueWritten_37 rfl ?_
      refine VO_getf (C0 := RX10) (T := TX10) (N := 9) (ci := 9) (fs := cwF c κ) 0 1 iwX10 (by decide) w234 (Or.inl rfl) rfl (at_cw) rfl dX10_valueWritten_38 ?_
      refine VO_getN (C0 := RX9) (T := TX9) (N := 10) (ci := 8) (fs := wkF c κ) 2 5 iwX9 (by decide) hK wn111 rfl (at_wk) rfl dX10_valueWritten_41 ?_
      refine V_iload dX10_valueWritten_44 rfl ?_
      refine VO_iald 8 at_wk_cellAt ⟨by omega, by omega⟩ (by decide) dX10_valueWritten_46 ?_
      refine V_eqT (y := zI (ac P (P 0 11) (P 0 12) t)) (congrArg zI (hA.2.2 t ht.1 htl)) ?_
      refine VO_callVF (As := [.ref (c 1), .ref (c 2), .int (zI (ac P (P 0 11) (P 0 12) t))]) (b := c (18 + 6 * Int.toNat m)) (i := 18 + 6 * Int.toNat m) (ci := 3) (fs := mcF c m) (T := TX4) (N := 2) (at_mc (hm)) rfl hK (k_w4_doStep en c κ m (ac P (P 0 11) (P 0 12) t) P (P 0 11) (P 0 12) (GS P (P 0 11) (P 0 12) m t) ⟨hM, hC, hm, hW.fr hF (by decide), hKV, hA, GS_b _ _ _ _ ht.1, ⟨hac.1, hac.2.1⟩⟩) mokX4_doStep w479 w480 w481 ⟨Nat.le_of_ble_eq_true rfl, Nat.le_of_ble_eq_true rfl⟩ rfl (Nat.le_of_ble_eq_true rfl) ⟨Nat.le_of_ble_eq_true rfl, Nat.le_of_ble_eq_true rfl⟩ dX10_valueWritten_47 (fun v w p_2 => ?_)
      obtain ⟨κ_3, rfl, rfl, q_4, q_5, q_6⟩ := p_2
      show V K sX10_valueWritten 0 0 (fm (cO en c κ_3)) [some (.ref (c 0)), some (.ref (c (18 + 6 * Int.toNat m))), some (.int (zI k)), some (.int (zI v)), some (.int (zI t))] [.int (zI (gvl P m (GS P (P 0 11) (P 0 12) m t) (ac P (P 0 11) (P 0 12) t)))] 50
      refine V_istore_n (L' := [some (.ref (c 0)), some (.ref (c (18 + 6 * Int.toNat m))), some (.int (zI k)), some (.int (zI (gvl P m (GS P (P 0 11) (P 0 12) m t) (ac P (P 0 11) (P 0 12) t)))), some (.int (zI t))]) dX10_valueWritten_50 (by decide) rfl ?_
      refine V_iinc (L' := [some (.ref (c 0)), some (.ref (c (18 + 6 * Int.toNat m))), some (.int (zI k)), some (.int (zI (gvl P m (GS P (P 0 11) (P 0 12) m t) (ac P (P 0 11) (P 0 12) t)))), some (.int (zI (t + 1)))]) dX10_valueWritten_51 (by decide) rfl rfl ?_
      refine V_goto (tgt := 14) dX10_valueWritten_54 (by decide) ?_
      refine ih_14 _ (by omega) κ_3 (gvl P m (GS P (P 0 11) (P 0 12) m t) (ac P (P 0 11) (P 0 12) t)) (t + 1) rfl ?_ ?_ ?_ ?_ ?_ ?_
      · exact q_4
      · exact hF.tr ((q_5.fr hm).mono (by decide))
      · exact hA.frM (q_5.frM hm)
      · exact KV.next hM hm ht.1 htl q_6
      · omega
      · exact fun _ => by rw [show t + 1 - 1 = t by omega]; exact gvl_VL hM hm ht.1 htl
  have seg_14 : ∀ (κ : St) (v : Int) (t : Int), (CI P κ) → (fr [50, 51, 52, 53, 54, 55, 56, 57, 58, 70, 71, 72, 73, 74, 75, 76, 77] κ0 κ) → (Arr P (P 0 11) (P 0 12) κ) → (KV m (GS P (P 0 11) (P 0 12) m t) κ) → (0 ≤ t ∧ t ≤ bt P (P 0 11) (P 0 12) k + 1) → (0 < t → v = VL P (P 0 11) (P 0 12) m (ac P (P 0 11) (P 0 12) (t - 1))) → V K sX10_valueWritten 0 0 (fm (cO en c κ)) [some (.ref (c 0)), some (.ref (c (18 + 6 * Int.toNat m))), some (.int (zI k)), some (.int (zI v)), some (.int (zI t))] [] 14 := fun κ v t hC hF hA hKV ht hv => loop_14 _ κ v t rfl hC hF hA hKV ht hv
  refine V_aload_n dX10_valueWritten_0 rfl ?_
  refine VO_callVF (As := []) (b := c 0) (i := 0) (ci := 9) (fs := cwF c κ) (T := TX10) (N := 9) (at_cw) rfl hK (k_arranged en c κ P ⟨hM, hC⟩) mokX10_arranged w312 w314 wps0_0 ⟨Nat.le_of_ble_eq_true rfl, Nat.le_of_ble_eq_true rfl⟩ rfl (Nat.le_of_ble_eq_true rfl) ⟨Nat.le_of_ble_eq_true rfl, Nat.le_of_ble_eq_true rfl⟩ dX10_valueWritten_1 (fun v w p_7 => ?_)
  obtain ⟨κ_8, rfl, rfl, q_9, q_10, q_11⟩ := p_7
  show V K sX10_valueWritten 0 0 (fm (cO en c κ_8)) [some (.ref (c 0)), some (.ref (c (18 + 6 * Int.toNat m))), some (.int (zI k)), none, none] [.ref (c 2)] 4
  refine V_pop dX10_valueWritten_4 rfl ?_
  refine V_aload_n dX10_valueWritten_5 rfl ?_
  refine VO_callVF (As := []) (b := c (18 + 6 * Int.toNat m)) (i := 18 + 6 * Int.toNat m) (ci := 3) (fs := mcF c m) (T := TX4) (N := 2) (at_mc (hm)) rfl hK (k_w4_empty en c κ_8 m P ⟨hM, q_9, hm⟩) mokX4_empty w474 w475 w476 ⟨Nat.le_of_ble_eq_true rfl, Nat.le_of_ble_eq_true rfl⟩ rfl (Nat.le_of_ble_eq_true rfl) ⟨Nat.le_of_ble_eq_true rfl, Nat.le_of_ble_eq_true rfl⟩ dX10_valueWritten_6 (fun v w p_12 => ?_)
  obtain ⟨κ_13, rfl, rfl, q_14, q_15, q_16⟩ := p_12
  show V K sX10_valueWritten 0 0 (fm (cO en c κ_13)) [some (.ref (c 0)), some (.ref (c (18 + 6 * Int.toNat m))), some (.int (zI k)), none, none] [] 9
  refine V_iconst dX10_valueWritten_9 ?_
  refine V_istore_n (L' := [some (.ref (c 0)), some (.ref (c (18 + 6 * Int.toNat m))), some (.int (zI k)), some (.int (zI 0)), none]) dX10_valueWritten_10 (by decide) rfl ?_
  refine V_iconst dX10_valueWritten_11 ?_
  refine V_istore (L' := [some (.ref (c 0)), some (.ref (c (18 + 6 * Int.toNat m))), some (.int (zI k)), some (.int (zI 0)), some (.int (zI 0))]) dX10_valueWritten_12 (by decide) rfl ?_
  refine seg_14 κ_13 0 0 ?_ ?_ ?_ ?_ ?_ ?_
  · exact q_14
  · exact (hF.tr (q_11.mono (by decide))).tr ((q_15.fr hm).mono (by decide))
  · exact q_10.frM (q_15.frM hm)
  · exact KV.start q_16
  · omega
  · exact fun h => by omega
set_option maxRecDepth 100000 in
set_option maxHeartbeats 4000000 in
theorem k_valueOf (en : Nat → Nat) (c : Nat → Nat) (κ : St) (s : Int) (i : Int) (j : Int) (P : St) (hp : MI P ∧ CI P κ ∧ iR s ∧ iR i ∧ iR j ∧ WR P κ ∧ WB κ 4) : MCX (EN en) yX10_valueOf sX10_valueOf [.ref (c 0), .int (zI s), .int (zI i), .int (zI j)] (fm (cO en c κ)) (fun v w => ∃ κ2 : St, v = some (.int (zI ((sp_valueOf P s i j).2.1))) ∧ w = fm (cO en c κ2) ∧ ((sp_valueOf P s i j).1 = 0) ∧ (CWP (sp_valueOf P s i j).2.2 κ2)) (XP1 en c (sp_valueOf P s i j) P [(1, IOBs)]) := by
  refine MCX.of (EN.stb en) [some (.ref (c 0)), some (.int (zI s)), some (.int (zI i)), some (.int (zI j)), none] 1 rfl rfl rfl (by simp [Value.category]) (Nat.le_of_ble_eq_true rfl) (fun K hK hR hX => ?_)
  obtain ⟨hM, hC, hp⟩ := hp
  have hN4 := hM.2.2.1
  obtain ⟨hr_s, hr_i, hr_j, hW, hW4⟩ := hp
  have hCW : CWP P κ := ⟨hC, hW, hW4⟩
  unfold iR at hr_s
  unfold iR at hr_i
  unfold iR at hr_j
  refine V_aload_n dX10_valueOf_0 rfl ?_
  refine V_iload_n dX10_valueOf_1 rfl ?_
  refine V_iload_n dX10_valueOf_2 rfl ?_
  refine V_iload_n dX10_valueOf_3 rfl ?_
  refine VO_callXVF (As := [.int (zI s), .int (zI i), .int (zI j)]) (b := c 0) (i := 0) (ci := 9) (fs := cwF c κ) (T := TX10) (N := 9) (at_cw) rfl hK (k_requireCell en c κ s i j P ⟨hM, hC, hr_s, hr_i, hr_j⟩) mokX10_requireCell w830 w832 wps1_4 ⟨Nat.le_of_ble_eq_true rfl, Nat.le_of_ble_eq_true rfl⟩ rfl (Nat.le_of_ble_eq_true rfl) ⟨Nat.le_of_ble_eq_true rfl, Nat.le_of_ble_eq_true rfl⟩ dX10_valueOf_4 hX (fun X w h => XP1.of (gd_f h.2.2) h.1 (by decide) h.2.1 hCW) (Nat.le_of_ble_eq_true rfl) (Nat.le_of_ble_eq_true rfl) (fun v w p_1 => ?_)
  obtain ⟨rfl, rfl, q_2⟩ := p_1
  show V K sX10_valueOf 2 12 (fm (cO en c κ)) [some (.ref (c 0)), some (.int (zI s)), some (.int (zI i)), some (.int (zI j)), none] [.int (zI (cc P s i j))] 7
  refine V_istore (L' := [some (.ref (c 0)), some (.int (zI s)), some (.int (zI i)), some (.int (zI j)), some (.int (zI (cc P s i j)))]) dX10_valueOf_7 (by decide) rfl ?_
  refine V_aload_n dX10_valueOf_9 rfl ?_
  refine V_aload_n dX10_valueOf_10 rfl ?_
  refine VO_getf (C0 := RX10) (T := TX10) (N := 9) (ci := 9) (fs := cwF c κ) 0 4 iwX10 (by decide) w237 (Or.inl rfl) rfl (at_cw) rfl dX10_valueOf_11 ?_
  show V K sX10_valueOf 2 12 (fm (cO en c κ)) [some (.ref (c 0)), some (.int (zI s)), some (.int (zI i)), some (.int (zI j)), some (.int (zI (cc P s i j)))] [.ref (c (18 + 6 * Int.toNat 0)), .ref (c 0)] 14
  refine V_iload dX10_valueOf_14 rfl ?_
  refine VO_callVF (As := [.ref (c (18 + 6 * Int.toNat 0)), .int (zI (cc P s i j))]) (b := c 0) (i := 0) (ci := 9) (fs := cwF c κ) (T := TX10) (N := 9) (at_cw) rfl hK (k_valueWritten en c κ 0 (cc P s i j) P ⟨hM, hC, ⟨by omega, by omega⟩, (cc_b hM q_2).1, hW⟩) mokX10_valueWritten w1009 w1011 wps1_8 ⟨Nat.le_of_ble_eq_true rfl, Nat.le_of_ble_eq_true rfl⟩ rfl (Nat.le_of_ble_eq_true rfl) ⟨Nat.le_of_ble_eq_true rfl, Nat.le_of_ble_eq_true rfl⟩ dX10_valueOf_16 (fun v w p_3 => ?_)
  obtain ⟨κ_4, rfl, rfl, q_5, q_6⟩ := p_3
  show V K sX10_valueOf 2 12 (fm (cO en c κ_4)) [some (.ref (c 0)), some (.int (zI s)), some (.int (zI i)), some (.int (zI j)), some (.int (zI (cc P s i j)))] [.int (zI (VL P (P 0 11) (P 0 12) 0 (cc P s i j)))] 19
  refine V_iret hR rfl (Nat.le_of_ble_eq_true rfl) (Nat.le_of_ble_eq_true rfl) dX10_valueOf_19 ?_
  exact pubC (sp := sp_valueOf P s i j) (gd_t q_2) (ziE (if_pos rfl)) (hCW.fr q_6 (by decide))
set_option maxRecDepth 100000 in
set_option maxHeartbeats 4000000 in
theorem k_contractedValueOf (en : Nat → Nat) (c : Nat → Nat) (κ : St) (s : Int) (i : Int) (j : Int) (P : St) (hp : MI P ∧ CI P κ ∧ iR s ∧ iR i ∧ iR j ∧ WR P κ ∧ WB κ 4) : MCX (EN en) yX10_contractedValueOf sX10_contractedValueOf [.ref (c 0), .int (zI s), .int (zI i), .int (zI j)] (fm (cO en c κ)) (fun v w => ∃ κ2 : St, v = some (.int (zI ((sp_contractedValueOf P s i j).2.1))) ∧ w = fm (cO en c κ2) ∧ ((sp_contractedValueOf P s i j).1 = 0) ∧ (CWP (sp_contractedValueOf P s i j).2.2 κ2)) (XP1 en c (sp_contractedValueOf P s i j) P [(1, IOBs)]) := by
  refine MCX.of (EN.stb en) [some (.ref (c 0)), some (.int (zI s)), some (.int (zI i)), some (.int (zI j)), none] 1 rfl rfl rfl (by simp [Value.category]) (Nat.le_of_ble_eq_true rfl) (fun K hK hR hX => ?_)
  obtain ⟨hM, hC, hp⟩ := hp
  have hN4 := hM.2.2.1
  obtain ⟨hr_s, hr_i, hr_j, hW, hW4⟩ := hp
  have hCW : CWP P κ := ⟨hC, hW, hW4⟩
  unfold iR at hr_s
  unfold iR at hr_i
  unfold iR at hr_j
  refine V_aload_n dX10_contractedValueOf_0 rfl ?_
  refine V_iload_n dX10_contractedValueOf_1 rfl ?_
  refine V_iload_n dX10_contractedValueOf_2 rfl ?_
  refine V_iload_n dX10_contractedValueOf_3 rfl ?_
  refine VO_callXVF (As := [.int (zI s), .int (zI i), .int (zI j)]) (b := c 0) (i := 0) (ci := 9) (fs := cwF c κ) (T := TX10) (N := 9) (at_cw) rfl hK (k_requireCell en c κ s i j P ⟨hM, hC, hr_s, hr_i, hr_j⟩) mokX10_requireCell w830 w832 wps1_4 ⟨Nat.le_of_ble_eq_true rfl, Nat.le_of_ble_eq_true rfl⟩ rfl (Nat.le_of_ble_eq_true rfl) ⟨Nat.le_of_ble_eq_true rfl, Nat.le_of_ble_eq_true rfl⟩ dX10_contractedValueOf_4 hX (fun X w h => XP1.of (gd_f h.2.2) h.1 (by decide) h.2.1 hCW) (Nat.le_of_ble_eq_true rfl) (Nat.le_of_ble_eq_true rfl) (fun v w p_1 => ?_)
  obtain ⟨rfl, rfl, q_2⟩ := p_1
  show V K sX10_contractedValueOf 2 12 (fm (cO en c κ)) [some (.ref (c 0)), some (.int (zI s)), some (.int (zI i)), some (.int (zI j)), none] [.int (zI (cc P s i j))] 7
  refine V_istore (L' := [some (.ref (c 0)), some (.int (zI s)), some (.int (zI i)), some (.int (zI j)), some (.int (zI (cc P s i j)))]) dX10_contractedValueOf_7 (by decide) rfl ?_
  refine V_aload_n dX10_contractedValueOf_9 rfl ?_
  refine V_aload_n dX10_contractedValueOf_10 rfl ?_
  refine VO_getf (C0 := RX10) (T := TX10) (N := 9) (ci := 9) (fs := cwF c κ) 0 5 iwX10 (by decide) w238 (Or.inl rfl) rfl (at_cw) rfl dX10_contractedValueOf_11 ?_
  show V K sX10_contractedValueOf 2 12 (fm (cO en c κ)) [some (.ref (c 0)), some (.int (zI s)), some (.int (zI i)), some (.int (zI j)), some (.int (zI (cc P s i j)))] [.ref (c (18 + 6 * Int.toNat 1)), .ref (c 0)] 14
  refine V_iload dX10_contractedValueOf_14 rfl ?_
  refine VO_callVF (As := [.ref (c (18 + 6 * Int.toNat 1)), .int (zI (cc P s i j))]) (b := c 0) (i := 0) (ci := 9) (fs := cwF c κ) (T := TX10) (N := 9) (at_cw) rfl hK (k_valueWritten en c κ 1 (cc P s i j) P ⟨hM, hC, ⟨by omega, by omega⟩, (cc_b hM q_2).1, hW⟩) mokX10_valueWritten w1009 w1011 wps1_8 ⟨Nat.le_of_ble_eq_true rfl, Nat.le_of_ble_eq_true rfl⟩ rfl (Nat.le_of_ble_eq_true rfl) ⟨Nat.le_of_ble_eq_true rfl, Nat.le_of_ble_eq_true rfl⟩ dX10_contractedValueOf_16 (fun v w p_3 => ?_)
  obtain ⟨κ_4, rfl, rfl, q_5, q_6⟩ := p_3
  show V K sX10_contractedValueOf 2 12 (fm (cO en c κ_4)) [some (.ref (c 0)), some (.int (zI s)), some (.int (zI i)), some (.int (zI j)), some (.int (zI (cc P s i j)))] [.int (zI (VL P (P 0 11) (P 0 12) 1 (cc P s i j)))] 19
  refine V_iret hR rfl (Nat.le_of_ble_eq_true rfl) (Nat.le_of_ble_eq_true rfl) dX10_contractedValueOf_19 ?_
  exact pubC (sp := sp_contractedValueOf P s i j) (gd_t q_2) (ziE (if_neg (by decide))) (hCW.fr q_6 (by decide))

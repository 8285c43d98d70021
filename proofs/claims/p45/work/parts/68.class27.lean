/-! the class: room with the least rests; the best schedule offered -/
set_option maxRecDepth 100000 in
set_option maxHeartbeats 4000000 in
theorem k_leastRoomWith (en : Nat → Nat) (c : Nat → Nat) (κ : St) (bw : Int) (cw : Int) (P : St) (hp : MI P ∧ CI P κ ∧ (0 ≤ bw ∧ bw ≤ 9) ∧ (0 ≤ cw ∧ cw ≤ 9) ∧ WR P κ ∧ WB κ 4) : MC (EN en) yX10_leastRoomWith sX10_leastRoomWith [.ref (c 0), .int (zI bw), .int (zI cw)] (fm (cO en c κ)) (fun v w => ∃ κ2 : St, v = some (.int (zI (smv (lr P bw cw) (P 0 2)))) ∧ w = fm (cO en c κ2) ∧ (CI P κ2) ∧ (CWP P κ2) ∧ (κ2 78 = κ 78)) := by
  refine MC.of (EN.stb en) [some (.ref (c 0)), some (.int (zI bw)), some (.int (zI cw)), none, none] 2 rfl rfl rfl (by simp [Value.category]) (Nat.le_of_ble_eq_true rfl) (fun K hK hR => ?_)
  obtain ⟨hM, hC, hp⟩ := hp
  have hN4 := hM.2.2.1
  obtain ⟨hb, hw, hW, hW4⟩ := hp
  obtain ⟨κ0, hκ0⟩ : ∃ κ0 : St, κ0 = κ := ⟨κ, rfl⟩
  have hCW0 : CWP P κ := ⟨hC, hW, hW4⟩
  have h78 : κ 78 = κ0 78 := by rw [hκ0]
  have loop_18 : ∀ (n0 : Nat) (κ : St) (n : Int) (s : Int), (P 0 2 - s).toNat = n0 → (CI P κ) → (CWP P κ) → (Arr P bw cw κ) → (κ 78 = κ0 78) → (0 ≤ s ∧ s ≤ P 0 2) → (n = smv (lr P bw cw) s) → V K sX10_leastRoomWith 0 0 (fm (cO en c κ)) [some (.ref (c 0)), some (.int (zI bw)), some (.int (zI cw)), some (.int (zI n)), some (.int (zI s))] [] 18 := by
    intro n0
    induction n0 using Nat.strongRecOn with
    | _ n0 ih_18 =>
    intro κ n s hm_18 hC hCW hA h78 hs hn
    refine V_iload dX10_leastRoomWith_18 rfl ?_
    refine V_aload_n dX10_leastRoomWith_20 rfl ?_
    refine VO_getf (C0 := RX10) (T := TX10) (N := 9) (ci := 9) (fs := cwF c κ) 0 0 iwX10 (by decide) w233 (Or.inl rfl) rfl (at_cw) rfl dX10_leastRoomWith_21 ?_
    refine VO_getN (C0 := RX5) (T := TX5) (N := 4) (ci := 4) (fs := prF c κ) 1 0 iwX5 (by decide) hK wn69 rfl (at_pr) rfl dX10_leastRoomWith_24 ?_
    show V K sX10_leastRoomWith 0 0 (fm (cO en c κ)) [some (.ref (c 0)), some (.int (zI bw)), some (.int (zI cw)), some (.int (zI n)), some (.int (zI s))] [.ref (c (35 + 8 * Int.toNat 4)), .int (zI s)] 27
    refine VO_callVF (As := []) (b := c (35 + 8 * Int.toNat 4)) (i := 35 + 8 * Int.toNat 4) (ci := 0) (fs := alF en c κ 4) (T := TJx4a65c) (N := 3) (at_al (CI.w4 _)) rfl hK (k_size4 en c κ P ⟨hM, hC⟩) mokJx4a65c_size_8abf5 w364 w270 w271 ⟨Nat.le_of_ble_eq_true rfl, Nat.le_of_ble_eq_true rfl⟩ rfl (Nat.le_of_ble_eq_true rfl) ⟨Nat.le_of_ble_eq_true rfl, Nat.le_of_ble_eq_true rfl⟩ dX10_leastRoomWith_27 (fun v w p_1 => ?_)
    obtain ⟨rfl, rfl⟩ := p_1
    show V K sX10_leastRoomWith 0 0 (fm (cO en c κ)) [some (.ref (c 0)), some (.int (zI bw)), some (.int (zI cw)), some (.int (zI n)), some (.int (zI s))] [.int (zI (P 0 2)), .int (zI s)] 30
    refine V_icmp_ge (tgt := 59) dX10_leastRoomWith_30 (by decide) ⟨⟨by omega, by omega⟩, ⟨by omega, by omega⟩⟩ (fun c_2 => ?_) (fun c_2 => ?_)
    · refine V_iload_n dX10_leastRoomWith_59 rfl ?_
      refine V_iret hR rfl (Nat.le_of_ble_eq_true rfl) (Nat.le_of_ble_eq_true rfl) dX10_leastRoomWith_60 ?_
      exact ⟨κ, ziE (by rw [hn, show s = P 0 2 by omega]), rfl, hC, hCW, by rw [← hκ0]; exact h78⟩
    · refine V_aload_n dX10_leastRoomWith_33 rfl ?_
      refine V_iload dX10_leastRoomWith_34 rfl ?_
      refine VO_callVF (As := [.int (zI s)]) (b := c 0) (i := 0) (ci := 9) (fs := cwF c κ) (T := TX10) (N := 9) (at_cw) rfl hK (k_gatherDifferences en c κ s P bw cw ⟨hM, hC, hA, ⟨by omega, by omega⟩⟩) mokX10_gatherDifferences w365 w367 wps0_5 ⟨Nat.le_of_ble_eq_true rfl, Nat.le_of_ble_eq_true rfl⟩ rfl (Nat.le_of_ble_eq_true rfl) ⟨Nat.le_of_ble_eq_true rfl, Nat.le_of_ble_eq_true rfl⟩ dX10_leastRoomWith_36 (fun v w p_3 => ?_)
      obtain ⟨κ_4, rfl, rfl, q_5, q_6, q_7⟩ := p_3
      show V K sX10_leastRoomWith 0 0 (fm (cO en c κ_4)) [some (.ref (c 0)), some (.int (zI bw)), some (.int (zI cw)), some (.int (zI n)), some (.int (zI s))] [] 39
      refine V_iload_n dX10_leastRoomWith_39 rfl ?_
      refine V_aload_n dX10_leastRoomWith_40 rfl ?_
      refine VO_getf (C0 := RX10) (T := TX10) (N := 9) (ci := 9) (fs := cwF c κ_4) 0 2 iwX10 (by decide) w235 (Or.inl rfl) rfl (at_cw) rfl dX10_leastRoomWith_41 ?_
      refine V_aload_n dX10_leastRoomWith_44 rfl ?_
      refine VO_getf (C0 := RX10) (T := TX10) (N := 9) (ci := 9) (fs := cwF c κ_4) 0 3 iwX10 (by decide) w236 (Or.inl rfl) rfl (at_cw) rfl dX10_leastRoomWith_45 ?_
      show V K sX10_leastRoomWith 0 0 (fm (cO en c κ_4)) [some (.ref (c 0)), some (.int (zI bw)), some (.int (zI cw)), some (.int (zI n)), some (.int (zI s))] [.ref (c (34 + 8 * Int.toNat 4)), .ref (c 12), .int (zI n)] 48
      refine VO_callVF (As := [.ref (c (34 + 8 * Int.toNat 4))]) (b := c 12) (i := 12) (ci := 2) (fs := dfF c κ_4) (T := TX2) (N := 7) (at_df) rfl hK (k_w2_leastRestModulus en c κ_4 4 P (gD P bw cw s s noD) ⟨hM, q_5, q_6, CI.w4 _, (hCW.fr q_7 (by decide)).2.2⟩) mokX2_leastRestModulus w400 w401 w402 ⟨Nat.le_of_ble_eq_true rfl, Nat.le_of_ble_eq_true rfl⟩ rfl (Nat.le_of_ble_eq_true rfl) ⟨Nat.le_of_ble_eq_true rfl, Nat.le_of_ble_eq_true rfl⟩ dX10_leastRoomWith_48 (fun v w p_8 => ?_)
      obtain ⟨r_9, κ_10, rfl, rfl, q_11, q_12, q_13, q_14⟩ := p_8
      show V K sX10_leastRoomWith 0 0 (fm (cO en c κ_10)) [some (.ref (c 0)), some (.int (zI bw)), some (.int (zI cw)), some (.int (zI n)), some (.int (zI s))] [.int (zI r_9), .int (zI n)] 51
      refine V_iadd dX10_leastRoomWith_51 ?_
      refine V_istore_n (L' := [some (.ref (c 0)), some (.int (zI bw)), some (.int (zI cw)), some (.int (zI (n + r_9))), some (.int (zI s))]) dX10_leastRoomWith_52 (by decide) rfl ?_
      refine V_iinc (L' := [some (.ref (c 0)), some (.int (zI bw)), some (.int (zI cw)), some (.int (zI (n + r_9))), some (.int (zI (s + 1)))]) dX10_leastRoomWith_53 (by decide) rfl rfl ?_
      refine V_goto (tgt := 18) dX10_leastRoomWith_56 (by decide) ?_
      refine ih_18 _ (by omega) κ_10 (n + r_9) (s + 1) rfl ?_ ?_ ?_ ?_ ?_ ?_
      · exact q_11
      · exact (hCW.fr q_7 (by decide)).frW4 q_12 q_13 hM
      · exact (hA.fr q_7 (by decide)).frW q_12
      · exact ((q_12.key (by decide)).trans (q_7 78 (by decide))).trans h78
      · omega
      · rw [smv_s _ hs.1, hn, (LRs.lr hM q_14).1]
  have seg_18 : ∀ (κ : St) (n : Int) (s : Int), (CI P κ) → (CWP P κ) → (Arr P bw cw κ) → (κ 78 = κ0 78) → (0 ≤ s ∧ s ≤ P 0 2) → (n = smv (lr P bw cw) s) → V K sX10_leastRoomWith 0 0 (fm (cO en c κ)) [some (.ref (c 0)), some (.int (zI bw)), some (.int (zI cw)), some (.int (zI n)), some (.int (zI s))] [] 18 := fun κ n s hC hCW hA h78 hs hn => loop_18 _ κ n s rfl hC hCW hA h78 hs hn
  refine V_aload_n dX10_leastRoomWith_0 rfl ?_
  refine VO_getf (C0 := RX10) (T := TX10) (N := 9) (ci := 9) (fs := cwF c κ) 0 1 iwX10 (by decide) w234 (Or.inl rfl) rfl (at_cw) rfl dX10_leastRoomWith_1 ?_
  refine V_aload_n dX10_leastRoomWith_4 rfl ?_
  refine VO_getf (C0 := RX10) (T := TX10) (N := 9) (ci := 9) (fs := cwF c κ) 0 0 iwX10 (by decide) w233 (Or.inl rfl) rfl (at_cw) rfl dX10_leastRoomWith_5 ?_
  refine V_iload_n dX10_leastRoomWith_8 rfl ?_
  refine V_iload_n dX10_leastRoomWith_9 rfl ?_
  refine VO_callVF (As := [.ref (c 1), .int (zI bw), .int (zI cw)]) (b := c 2) (i := 2) (ci := 8) (fs := wkF c κ) (T := TX9) (N := 10) (at_wk) rfl hK (k_w9_arrange en c κ bw cw P ⟨hM, hC, hb, hw⟩) mokX9_arrange w316 w317 w318 ⟨Nat.le_of_ble_eq_true rfl, Nat.le_of_ble_eq_true rfl⟩ rfl (Nat.le_of_ble_eq_true rfl) ⟨Nat.le_of_ble_eq_true rfl, Nat.le_of_ble_eq_true rfl⟩ dX10_leastRoomWith_10 (fun v w p_15 => ?_)
  obtain ⟨κ_16, rfl, rfl, q_17, q_18, q_19⟩ := p_15
  show V K sX10_leastRoomWith 0 0 (fm (cO en c κ_16)) [some (.ref (c 0)), some (.int (zI bw)), some (.int (zI cw)), none, none] [] 13
  refine V_iconst dX10_leastRoomWith_13 ?_
  refine V_istore_n (L' := [some (.ref (c 0)), some (.int (zI bw)), some (.int (zI cw)), some (.int (zI 0)), none]) dX10_leastRoomWith_14 (by decide) rfl ?_
  refine V_iconst dX10_leastRoomWith_15 ?_
  refine V_istore (L' := [some (.ref (c 0)), some (.int (zI bw)), some (.int (zI cw)), some (.int (zI 0)), some (.int (zI 0))]) dX10_leastRoomWith_16 (by decide) rfl ?_
  refine seg_18 κ_16 0 0 ?_ ?_ ?_ ?_ ?_ ?_
  · exact q_17
  · exact hCW0.fr q_19 (by decide)
  · exact q_18
  · exact (q_19 78 (by decide)).trans h78
  · omega
  · exact rfl
set_option maxRecDepth 100000 in
set_option maxHeartbeats 4000000 in
theorem k_w1_offer (en : Nat → Nat) (c : Nat → Nat) (κ : St) (r : Int) (d : Int) (m : Int) (hp : (κ 78 0 = 0 ∨ κ 78 0 = 1) ∧ iR m ∧ (κ 78 0 ≠ 0 → iR (κ 78 3))) : MC (EN en) yX1_offer sX1_offer [.ref (c 30), .int (zI r), .int (zI d), .int (zI m)] (fm (cO en c κ)) (fun v w => ∃ κ2 : St, v = none ∧ w = fm (cO en c κ2) ∧ ((κ 78 0 = 0 ∨ m < κ 78 3) → κ2 = up (up (up (up κ 78 0 1) 78 1 r) 78 2 d) 78 3 m) ∧ (¬ (κ 78 0 = 0 ∨ m < κ 78 3) → κ2 = κ)) := by
  refine MC.of (EN.stb en) [some (.ref (c 30)), some (.int (zI r)), some (.int (zI d)), some (.int (zI m))] 0 rfl rfl rfl (by simp [Value.category]) (Nat.le_of_ble_eq_true rfl) (fun K hK hR => ?_)
  obtain ⟨hf, hm, h3⟩ := hp
  unfold iR at hm
  refine V_aload_n dX1_offer_0 rfl ?_
  refine VO_getf (C0 := RX1) (T := TX1) (N := 4) (ci := 1) (fs := bsF κ) 30 0 iwX1 (by decide) w216 (Or.inl rfl) rfl (at_bs) rfl dX1_offer_1 ?_
  refine V_if_eq (tgt := 15) dX1_offer_4 (by decide) ⟨by omega, by omega⟩ (fun c_1 => ?_) (fun c_1 => ?_)
  · refine V_aload_n dX1_offer_15 rfl ?_
    refine V_iconst dX1_offer_16 ?_
    refine VO_putf (C0 := RX1) (T := TX1) (N := 4) (ci := 1) (fs := bsF κ) 30 0 iwX1 (by decide) w216 (Or.inl rfl) tyX1 tyX1_ok nmX1 rfl rfl (at_bs) (Nat.le_of_ble_eq_true rfl) rfl rfl dX1_offer_17 (st_bs_found 1) ?_
    refine V_aload_n dX1_offer_20 rfl ?_
    refine V_iload_n dX1_offer_21 rfl ?_
    refine VO_putf (C0 := RX1) (T := TX1) (N := 4) (ci := 1) (fs := bsF (up κ 78 0 1)) 30 1 iwX1 (by decide) w218 (Or.inl rfl) tyX1 tyX1_ok nmX1 rfl rfl (at_bs) (Nat.le_of_ble_eq_true rfl) rfl rfl dX1_offer_22 (st_bs_rowWeight r) ?_
    refine V_aload_n dX1_offer_25 rfl ?_
    refine V_iload_n dX1_offer_26 rfl ?_
    refine VO_putf (C0 := RX1) (T := TX1) (N := 4) (ci := 1) (fs := bsF (up (up κ 78 0 1) 78 1 r)) 30 2 iwX1 (by decide) w220 (Or.inl rfl) tyX1 tyX1_ok nmX1 rfl rfl (at_bs) (Nat.le_of_ble_eq_true rfl) rfl rfl dX1_offer_27 (st_bs_columnWeight d) ?_
    refine V_aload_n dX1_offer_30 rfl ?_
    refine V_iload_n dX1_offer_31 rfl ?_
    refine VO_putf (C0 := RX1) (T := TX1) (N := 4) (ci := 1) (fs := bsF (up (up (up κ 78 0 1) 78 1 r) 78 2 d)) 30 3 iwX1 (by decide) w222 (Or.inl rfl) tyX1 tyX1_ok nmX1 rfl rfl (at_bs) (Nat.le_of_ble_eq_true rfl) rfl rfl dX1_offer_32 (st_bs_room m) ?_
    refine V_vret hR rfl (Nat.le_of_ble_eq_true rfl) (Nat.le_of_ble_eq_true rfl) dX1_offer_35 ?_
    exact ⟨_, rfl, rfl, fun _ => rfl, fun z => absurd (Or.inl c_1) z⟩
  · have h4 := h3 c_1
    unfold iR at h4
    refine V_iload_n dX1_offer_7 rfl ?_
    refine V_aload_n dX1_offer_8 rfl ?_
    refine VO_getf (C0 := RX1) (T := TX1) (N := 4) (ci := 1) (fs := bsF κ) 30 3 iwX1 (by decide) w222 (Or.inl rfl) rfl (at_bs) rfl dX1_offer_9 ?_
    refine V_icmp_ge (tgt := 35) dX1_offer_12 (by decide) ⟨⟨by omega, by omega⟩, ⟨by omega, by omega⟩⟩ (fun c_2 => ?_) (fun c_2 => ?_)
    · refine V_vret hR rfl (Nat.le_of_ble_eq_true rfl) (Nat.le_of_ble_eq_true rfl) dX1_offer_35 ?_
      exact ⟨κ, rfl, rfl, fun z => by omega, fun _ => rfl⟩
    · refine V_aload_n dX1_offer_15 rfl ?_
      refine V_iconst dX1_offer_16 ?_
      refine VO_putf (C0 := RX1) (T := TX1) (N := 4) (ci := 1) (fs := bsF κ) 30 0 iwX1 (by decide) w216 (Or.inl rfl) tyX1 tyX1_ok nmX1 rfl rfl (at_bs) (Nat.le_of_ble_eq_true rfl) rfl rfl dX1_offer_17 (st_bs_found 1) ?_
      refine V_aload_n dX1_offer_20 rfl ?_
      refine V_iload_n dX1_offer_21 rfl ?_
      refine VO_putf (C0 := RX1) (T := TX1) (N := 4) (ci := 1) (fs := bsF (up κ 78 0 1)) 30 1 iwX1 (by decide) w218 (Or.inl rfl) tyX1 tyX1_ok nmX1 rfl rfl (at_bs) (Nat.le_of_ble_eq_true rfl) rfl rfl dX1_offer_22 (st_bs_rowWeight r) ?_
      refine V_aload_n dX1_offer_25 rfl ?_
      refine V_iload_n dX1_offer_26 rfl ?_
      refine VO_putf (C0 := RX1) (T := TX1) (N := 4) (ci := 1) (fs := bsF (up (up κ 78 0 1) 78 1 r)) 30 2 iwX1 (by decide) w220 (Or.inl rfl) tyX1 tyX1_ok nmX1 rfl rfl (at_bs) (Nat.le_of_ble_eq_true rfl) rfl rfl dX1_offer_27 (st_bs_columnWeight d) ?_
      refine V_aload_n dX1_offer_30 rfl ?_
      refine V_iload_n dX1_offer_31 rfl ?_
      refine VO_putf (C0 := RX1) (T := TX1) (N := 4) (ci := 1) (fs := bsF (up (up (up κ 78 0 1) 78 1 r) 78 2 d)) 30 3 iwX1 (by decide) w222 (Or.inl rfl) tyX1 tyX1_ok nmX1 rfl rfl (at_bs) (Nat.le_of_ble_eq_true rfl) rfl rfl dX1_offer_32 (st_bs_room m) ?_
      refine V_vret hR rfl (Nat.le_of_ble_eq_true rfl) (Nat.le_of_ble_eq_true rfl) dX1_offer_35 ?_
      exact ⟨_, rfl, rfl, fun _ => rfl, fun z => absurd (Or.inr c_2) z⟩

/-! the class: the best schedule -/
def bS (κ : St) (b r d : Int) : Prop := (κ 78 0 = 0 ∧ b = -1) ∨ (κ 78 0 = 1 ∧ (0 ≤ b ∧ b ≤ 400) ∧ κ 78 3 = b ∧ κ 78 1 = r ∧ κ 78 2 = d)
def bB (P κ : St) (n : Int) : Prop := ∃ b r d, bS κ b r d ∧ IsBest P n b r d
theorem slr_b {P : St} (hM : MI P) (bw cw : Int) : 0 ≤ smv (lr P bw cw) (P 0 2) ∧ smv (lr P bw cw) (P 0 2) ≤ 400 := by
  have hN := hM.2.2.1
  have h := smv_b (f := lr P bw cw) (B := 64) (P 0 2) hN.1 (fun j a b => by have := lr_b hM bw cw j; omega)
  have h2 : P 0 2 * 64 ≤ 4 * 64 := Int.mul_le_mul_of_nonneg_right hN.2 (by decide)
  omega
theorem bB.start {P κ : St} (h : κ 78 0 = 0) : bB P κ 0 := ⟨-1, 0, 0, Or.inl ⟨h, rfl⟩, Or.inl ⟨rfl, fun k a b => by omega⟩⟩
theorem bB.no {P κ : St} {i j : Int} (h : bB P κ (4 * i + j)) (hi : 0 ≤ i) (hj : 0 ≤ j ∧ j < 4) (ha : ¬ alw P i j) : bB P κ (4 * i + (j + 1)) := by
  obtain ⟨b, r, d, h1, h2⟩ := h
  rw [show 4 * i + (j + 1) = (4 * i + j) + 1 by omega]
  exact ⟨b, r, d, h1, h2.no (by omega) (by rw [show (4 * i + j) / 4 = i by omega, show (4 * i + j) % 4 = j by omega]; exact ha)⟩
theorem bB.offer {P κ κ2 κ3 : St} {i j : Int} (hM : MI P) (h : bB P κ (4 * i + j)) (e : κ2 78 = κ 78) (hi : 0 ≤ i) (hj : 0 ≤ j ∧ j < 4) (ha : alw P i j) (h1 : (κ2 78 0 = 0 ∨ smv (lr P i j) (P 0 2) < κ2 78 3) → κ3 = up (up (up (up κ2 78 0 1) 78 1 i) 78 2 j) 78 3 (smv (lr P i j) (P 0 2))) (h2 : ¬ (κ2 78 0 = 0 ∨ smv (lr P i j) (P 0 2) < κ2 78 3) → κ3 = κ2) : bB P κ3 (4 * i + (j + 1)) := by
  obtain ⟨b, r, d, g1, g2⟩ := h
  have hs := slr_b hM i j
  have e4 : (4 * i + j) / 4 = i := by omega
  have e5 : (4 * i + j) % 4 = j := by omega
  rw [show 4 * i + (j + 1) = (4 * i + j) + 1 by omega]
  rw [e] at h1 h2
  by_cases hc : κ 78 0 = 0 ∨ smv (lr P i j) (P 0 2) < κ 78 3
  · rw [h1 hc]
    refine ⟨smv (lr P i j) (P 0 2), i, j, Or.inr ⟨rfl, hs, rfl, rfl, rfl⟩, ?_⟩
    have hb : b < 0 ∨ smv (lr P i j) (P 0 2) < b := by
      rcases g1 with ⟨-, z⟩ | ⟨z0, -, z, -⟩
      · exact Or.inl (by omega)
      · exact Or.inr (by omega)
    have := g2.new (by omega) (by rw [e4, e5]; exact ha) (by rw [e4, e5]; exact hs.1) (by rw [e4, e5]; exact hb)
    rw [e4, e5] at this
    exact this
  · rw [h2 hc]
    rcases g1 with ⟨z, -⟩ | ⟨z0, zb, z3, z1, z2⟩
    · exact absurd (Or.inl z) hc
    · exact ⟨b, r, d, Or.inr ⟨by rw [e]; exact z0, zb, by rw [e]; exact z3, by rw [e]; exact z1, by rw [e]; exact z2⟩, g2.worse (by omega) zb.1 (by rw [e4, e5]; omega)⟩
theorem bB.cwp {P κ2 κ3 : St} {q : Prop} {a b d e : Int} (h : CWP P κ2) (h1 : q → κ3 = up (up (up (up κ2 78 0 a) 78 1 b) 78 2 d) 78 3 e) (h2 : ¬ q → κ3 = κ2) : CWP P κ3 := by
  by_cases hq : q
  · rw [h1 hq]
    exact h.fr (((((fr.rf [78] κ2).upd (by decide)).upd (by decide)).upd (by decide)).upd (by decide)) (by decide)
  · rw [h2 hq]; exact h
theorem bB.pre {P κ κ2 : St} {n m : Int} (h : bB P κ n) (e : κ2 78 = κ 78) (hm : 0 ≤ m ∧ m ≤ 400) : (κ2 78 0 = 0 ∨ κ2 78 0 = 1) ∧ iR m ∧ (κ2 78 0 ≠ 0 → iR (κ2 78 3)) := by
  obtain ⟨b, r, d, g1, -⟩ := h
  rw [e]
  refine ⟨g1.imp And.left And.left, ⟨by omega, by omega⟩, fun z => ?_⟩
  rcases g1 with ⟨y, -⟩ | ⟨-, y, y3, -⟩
  · exact absurd y z
  · rw [y3]; exact ⟨by omega, by omega⟩
theorem bB.found {P κ : St} {n : Int} (h : bB P κ n) : (κ 78 0 ≠ 0 → IsBest P n (κ 78 3) (κ 78 1) (κ 78 2) ∧ 0 ≤ κ 78 3) := by
  obtain ⟨b, r, d, g1, g2⟩ := h
  intro z
  rcases g1 with ⟨y, -⟩ | ⟨-, y, y3, y1, y2⟩
  · exact absurd y z
  · rw [y3, y1, y2]; exact ⟨g2, y.1⟩
theorem bB.none {P κ : St} (h : bB P κ 16) (z : κ 78 0 = 0) : ¬ hasB P := by
  obtain ⟨b, r, d, g1, g2⟩ := h
  intro hb
  have := (hasB_iff g2).mp hb
  rcases g1 with ⟨-, y⟩ | ⟨y, -⟩ <;> omega
set_option maxRecDepth 100000 in
set_option maxHeartbeats 4000000 in
theorem k_findBest (en : Nat → Nat) (c : Nat → Nat) (κ : St) (P : St) (hp : MI P ∧ CI P κ ∧ WR P κ ∧ WB κ 4) : MCX (EN en) yX10_findBest sX10_findBest [.ref (c 0)] (fm (cO en c κ)) (fun v w => ∃ κ2 : St, v = none ∧ w = fm (cO en c κ2) ∧ (CI P κ2) ∧ (CWP P κ2) ∧ (IsBest P 16 (κ2 78 3) (κ2 78 1) (κ2 78 2) ∧ 0 ≤ κ2 78 3)) (fun X w => X = ISEs ∧ (∃ κ2 : St, w = fm (cO en c κ2) ∧ CWP P κ2) ∧ ¬ hasB P) := by
  refine MCX.of (EN.stb en) [some (.ref (c 0)), none, none] 2 rfl rfl rfl (by simp [Value.category]) (Nat.le_of_ble_eq_true rfl) (fun K hK hR hX => ?_)
  obtain ⟨hM, hC, hp⟩ := hp
  have hN4 := hM.2.2.1
  have hCW : CWP P κ := ⟨hC, hp.1, hp.2⟩
  have loop_10 : ∀ (n0 : Nat) (κ : St) (i : Int), (4 - i).toNat = n0 → (CI P κ) → (CWP P κ) → (0 ≤ i ∧ i ≤ 4) → (bB P κ (4 * i)) → V K sX10_findBest 0 0 (fm (cO en c κ)) [some (.ref (c 0)), some (.int (zI i)), none] [] 10 := by
    intro n0
    induction n0 using Nat.strongRecOn with
    | _ n0 ih_10 =>
    intro κ i hm_10 hC hCW hi hB
    have loop_17 : ∀ (n0 : Nat) (κ : St) (j : Int), (4 - j).toNat = n0 → (CI P κ) → (CWP P κ) → (i < 4) → (0 ≤ j ∧ j ≤ 4) → (bB P κ (4 * i + j)) → V K sX10_findBest 0 0 (fm (cO en c κ)) [some (.ref (c 0)), some (.int (zI i)), some (.int (zI j))] [] 17 := by
      intro n0
      induction n0 using Nat.strongRecOn with
      | _ n0 ih_17 =>
      intro κ j hm_17 hC hCW hii hj hB
      refine V_iload_n dX10_findBest_17 rfl ?_
      refine V_iconst dX10_findBest_18 ?_
      refine V_icmp_gt (tgt := 55) dX10_findBest_19 (by decide) ⟨⟨by omega, by omega⟩, ⟨by omega, by omega⟩⟩ (fun c_1 => ?_) (fun c_1 => ?_)
      · refine V_iinc (L' := [some (.ref (c 0)), some (.int (zI (i + 1))), some (.int (zI j))]) dX10_findBest_55 (by decide) rfl rfl ?_
        refine V_goto (tgt := 10) dX10_findBest_58 (by decide) ?_
        refine V_mask (L' := [some (.ref (c 0)), some (.int (zI (i + 1))), none]) [true, true, false] rfl ?_
        refine ih_10 _ (by omega) κ (i + 1) rfl ?_ ?_ ?_ ?_
        · exact hC
        · exact hCW
        · omega
        · rw [show 4 * (i + 1) = 4 * i + j by omega]; exact hB
      · refine V_aload_n dX10_findBest_22 rfl ?_
        refine VO_getf (C0 := RX10) (T := TX10) (N := 9) (ci := 9) (fs := cwF c κ) 0 0 iwX10 (by decide) w233 (Or.inl rfl) rfl (at_cw) rfl dX10_findBest_23 ?_
        refine V_iload_n dX10_findBest_26 rfl ?_
        refine V_iload_n dX10_findBest_27 rfl ?_
        refine VO_callVF (As := [.int (zI i), .int (zI j)]) (b := c 1) (i := 1) (ci := 4) (fs := prF c κ) (T := TX5) (N := 4) (at_pr) rfl hK (k_w5_allows en c κ i j P ⟨hM, hC, ⟨by omega, by omega⟩, ⟨by omega, by omega⟩⟩) mokX5_allows w265 w266 w267 ⟨Nat.le_of_ble_eq_true rfl, Nat.le_of_ble_eq_true rfl⟩ rfl (Nat.le_of_ble_eq_true rfl) ⟨Nat.le_of_ble_eq_true rfl, Nat.le_of_ble_eq_true rfl⟩ dX10_findBest_28 (fun v w p_2 => ?_)
        obtain ⟨rfl, rfl⟩ := p_2
        show V K sX10_findBest 0 0 (fm (cO en c κ)) [some (.ref (c 0)), some (.int (zI i)), some (.int (zI j))] [.int (zI (bz (dcd (alw P i j))))] 31
        refine V_ifc_eq (tgt := 49) dX10_findBest_31 (by decide) (fun c_3 => ?_) (fun c_3 => ?_)
        · refine V_iinc (L' := [some (.ref (c 0)), some (.int (zI i)), some (.int (zI (j + 1)))]) dX10_findBest_49 (by decide) rfl rfl ?_
          refine V_goto (tgt := 17) dX10_findBest_52 (by decide) ?_
          refine ih_17 _ (by omega) κ (j + 1) rfl ?_ ?_ ?_ ?_ ?_
          · exact hC
          · exact hCW
          · omega
          · omega
          · exact hB.no hi.1 ⟨hj.1, by omega⟩ c_3
        · refine V_aload_n dX10_findBest_34 rfl ?_
          refine VO_getf (C0 := RX10) (T := TX10) (N := 9) (ci := 9) (fs := cwF c κ) 0 6 iwX10 (by decide) w239 (Or.inl rfl) rfl (at_cw) rfl dX10_findBest_35 ?_
          refine V_iload_n dX10_findBest_38 rfl ?_
          refine V_iload_n dX10_findBest_39 rfl ?_
          refine V_aload_n dX10_findBest_40 rfl ?_
          refine V_iload_n dX10_findBest_41 rfl ?_
          refine V_iload_n dX10_findBest_42 rfl ?_
          refine VO_callVF (As := [.int (zI i), .int (zI j)]) (b := c 0) (i := 0) (ci := 9) (fs := cwF c κ) (T := TX10) (N := 9) (at_cw) rfl hK (k_leastRoomWith en c κ i j P ⟨hM, hC, ⟨by omega, by omega⟩, ⟨by omega, by omega⟩, hCW.2.1, hCW.2.2⟩) mokX10_leastRoomWith w809 w811 wps1_3 ⟨Nat.le_of_ble_eq_true rfl, Nat.le_of_ble_eq_true rfl⟩ rfl (Nat.le_of_ble_eq_true rfl) ⟨Nat.le_of_ble_eq_true rfl, Nat.le_of_ble_eq_true rfl⟩ dX10_findBest_43 (fun v w p_4 => ?_)
          obtain ⟨κ_5, rfl, rfl, q_6, q_7, q_8⟩ := p_4
          show V K sX10_findBest 0 0 (fm (cO en c κ_5)) [some (.ref (c 0)), some (.int (zI i)), some (.int (zI j))] [.int (zI (smv (lr P i j) (P 0 2))), .int (zI j), .int (zI i), .ref (c 30)] 46
          refine VO_callVF (As := [.int (zI i), .int (zI j), .int (zI (smv (lr P i j) (P 0 2)))]) (b := c 30) (i := 30) (ci := 1) (fs := bsF κ_5) (T := TX1) (N := 4) (at_bs) rfl hK (k_w1_offer en c κ_5 i j (smv (lr P i j) (P 0 2)) (hB.pre q_8 (slr_b hM i j))) mokX1_offer w813 w814 w815 ⟨Nat.le_of_ble_eq_true rfl, Nat.le_of_ble_eq_true rfl⟩ rfl (Nat.le_of_ble_eq_true rfl) ⟨Nat.le_of_ble_eq_true rfl, Nat.le_of_ble_eq_true rfl⟩ dX10_findBest_46 (fun v w p_9 => ?_)
          obtain ⟨κ_10, rfl, rfl, q_11, q_12⟩ := p_9
          show V K sX10_findBest 0 0 (fm (cO en c κ_10)) [some (.ref (c 0)), some (.int (zI i)), some (.int (zI j))] [] 49
          refine V_iinc (L' := [some (.ref (c 0)), some (.int (zI i)), some (.int (zI (j + 1)))]) dX10_findBest_49 (by decide) rfl rfl ?_
          refine V_goto (tgt := 17) dX10_findBest_52 (by decide) ?_
          refine ih_17 _ (by omega) κ_10 (j + 1) rfl ?_ ?_ ?_ ?_ ?_
          · exact (bB.cwp q_7 q_11 q_12).1
          · exact bB.cwp q_7 q_11 q_12
          · omega
          · omega
          · exact bB.offer hM hB q_8 hi.1 ⟨hj.1, by omega⟩ c_3 q_11 q_12
    have seg_17 : ∀ (κ : St) (j : Int), (CI P κ) → (CWP P κ) → (i < 4) → (0 ≤ j ∧ j ≤ 4) → (bB P κ (4 * i + j)) → V K sX10_findBest 0 0 (fm (cO en c κ)) [some (.ref (c 0)), some (.int (zI i)), some (.int (zI j))] [] 17 := fun κ j hC hCW hii hj hB => loop_17 _ κ j rfl hC hCW hii hj hB
    refine V_iload_n dX10_findBest_10 rfl ?_
    refine V_iconst dX10_findBest_11 ?_
    refine V_icmp_gt (tgt := 61) dX10_findBest_12 (by decide) ⟨⟨by omega, by omega⟩, ⟨by omega, by omega⟩⟩ (fun c_13 => ?_) (fun c_13 => ?_)
    · refine V_aload_n dX10_findBest_61 rfl ?_
      refine VO_getf (C0 := RX10) (T := TX10) (N := 9) (ci := 9) (fs := cwF c κ) 0 6 iwX10 (by decide) w239 (Or.inl rfl) rfl (at_cw) rfl dX10_findBest_62 ?_
      refine VO_getN (C0 := RX1) (T := TX1) (N := 4) (ci := 1) (fs := bsF κ) 30 0 iwX1 (by decide) hK wn217 rfl (at_bs) rfl dX10_findBest_65 ?_
      have h01 := (hB.pre rfl (m := 0) ⟨by omega, by omega⟩).1
      refine V_if_ne (tgt := 82) dX10_findBest_68 (by decide) ⟨by omega, by omega⟩ (fun c_14 => ?_) (fun c_14 => ?_)
      · refine V_vret hR rfl (Nat.le_of_ble_eq_true rfl) (Nat.le_of_ble_eq_true rfl) dX10_findBest_82 ?_
        exact ⟨κ, rfl, rfl, hC, hCW, by
          have := hB.found c_14
          rw [show 4 * i = 16 by omega] at this
          exact this⟩
      · refine V_throwS (i := 4) hK hX (⟨rfl, ⟨κ, rfl, hCW⟩, bB.none (by rw [show (16 : Int) = 4 * i by omega]; exact hB) c_14⟩) rfl (by decide +kernel) (by decide +kernel) w588 w22 hat_ISE hgd_ISE (by decide) rfl dX10_findBest_71 dX10_findBest_74 dX10_findBest_75 dX10_findBest_78 dX10_findBest_81 ⟨by decide, by decide⟩ ⟨Nat.le_of_ble_eq_true rfl, Nat.le_of_ble_eq_true rfl⟩ ⟨Nat.le_of_ble_eq_true rfl, Nat.le_of_ble_eq_true rfl⟩
    · refine V_iconst dX10_findBest_15 ?_
      refine V_istore_n (L' := [some (.ref (c 0)), some (.int (zI i)), some (.int (zI 0))]) dX10_findBest_16 (by decide) rfl ?_
      refine seg_17 κ 0 ?_ ?_ ?_ ?_ ?_
      · exact hC
      · exact hCW
      · omega
      · omega
      · rw [Int.add_zero]; exact hB
  have seg_10 : ∀ (κ : St) (i : Int), (CI P κ) → (CWP P κ) → (0 ≤ i ∧ i ≤ 4) → (bB P κ (4 * i)) → V K sX10_findBest 0 0 (fm (cO en c κ)) [some (.ref (c 0)), some (.int (zI i)), none] [] 10 := fun κ i hC hCW hi hB => loop_10 _ κ i rfl hC hCW hi hB
  refine V_aload_n dX10_findBest_0 rfl ?_
  refine VO_getf (C0 := RX10) (T := TX10) (N := 9) (ci := 9) (fs := cwF c κ) 0 6 iwX10 (by decide) w239 (Or.inl rfl) rfl (at_cw) rfl dX10_findBest_1 ?_
  refine V_iconst dX10_findBest_4 ?_
  refine VO_putN (C0 := RX1) (T := TX1) (N := 4) (ci := 1) (fs := bsF κ) 30 0 iwX1 (by decide) hK wn217 tyX1 tyX1_ok nmX1 rfl rfl (at_bs) (Nat.le_of_ble_eq_true rfl) rfl rfl dX10_findBest_5 (st_bs_found 0) ?_
  refine V_iconst dX10_findBest_8 ?_
  refine V_istore_n (L' := [some (.ref (c 0)), some (.int (zI 0)), none]) dX10_findBest_9 (by decide) rfl ?_
  refine seg_10 (up κ 78 0 0) 0 ?_ ?_ ?_ ?_
  · exact ((hC).up (by decide))
  · exact hCW.fr ((fr.rf [78] κ).upd (by decide)) (by decide)
  · omega
  · exact bB.start rfl

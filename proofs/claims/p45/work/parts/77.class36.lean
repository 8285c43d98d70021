/-! the class: contraction -/
theorem ci_ov {P Q κ : St} (h : CI P κ) (hS : Sw P Q) : CI Q (ov κ Q) := by
  refine ⟨fun k h1 h2 => ?_, (h.2.1).trans hS.pt.symm, h.2.2⟩
  have e : Q k = ov P Q k := congrFun hS k
  rw [e]
  unfold ov
  by_cases a1 : k = 13
  · rw [if_pos a1, if_pos a1]
  · by_cases a2 : k = 14
    · rw [if_neg a1, if_neg a1, if_pos a2, if_pos a2]
    · by_cases a3 : k = 15
      · rw [if_neg a1, if_neg a1, if_neg a2, if_neg a2, if_pos a3, if_pos a3]
      · rw [if_neg a1, if_neg a1, if_neg a2, if_neg a2, if_neg a3, if_neg a3]
        exact h.1 k h1 h2
theorem ms_rf {P : St} (h : MI P) : MS P P := ⟨h, Sw.rf P⟩
theorem ms_ctq {P : St} (hM : MI P) {s : Int} (h0 : 0 ≤ s) (h : MS P (ctq P s)) : MS P (ctq P (s + 1)) := by
  rw [ctq_s P h0]
  exact ms_3 hM (ms_2 hM (ms_1 hM (ms_0 h s) s) s) s
theorem wr_ctq {P κ κ2 : St} (hM : MI P) {s : Int} (hs : 0 ≤ s ∧ s < P 0 2) (h : ∀ t, 0 ≤ t → t < P 0 2 → WR1 (ctq P s) κ t) (hf : frS s κ κ2) (h1 : WR1 (cw3 P s (cw2 P s (cw1 P s (kp (ctq P s) s 0 0 0)))) κ2 s) : ∀ t, 0 ≤ t → t < P 0 2 → WR1 (ctq P (s + 1)) κ2 t := by
  intro t a b
  have := hM.2.2.1
  rw [ctq_s P hs.1]
  by_cases e : t = s
  · rw [e]; exact h1
  · exact WR1.eqT ((h t a b).frS hf e (by omega)) ((((eqT_kp e).tr (eqT_if e)).tr (eqT_if e)).tr (eqT_if e))
theorem WR1.fr1 {P κ κ2 : St} {t : Int} (h : WR1 P κ t) {ks : List Nat} (hf : fr ks κ κ2) (hs : ks.all (fun k => decide (k < 39 ∨ 43 < k)) = true) : WR1 P κ2 t := by
  have e : ∀ k : Nat, (39 ≤ k ∧ k ≤ 43) → κ2 k = κ k := fun k a => hf k (fun z => by have := List.all_eq_true.mp hs k z; simp at this; omega)
  unfold WR1 WB
  rw [e 39 (by omega), e 40 (by omega), e 41 (by omega), e 42 (by omega), e 43 (by omega)]
  exact h
set_option maxRecDepth 100000 in
set_option maxHeartbeats 4000000 in
theorem k_contract (en : Nat → Nat) (c : Nat → Nat) (κ : St) (P : St) (hp : MI P ∧ CI P κ ∧ WR P κ ∧ WB κ 4) : MC (EN en) yX10_contract sX10_contract [.ref (c 0)] (fm (cO en c κ)) (fun v w => ∃ κ2 : St, v = some (.int (zI ((sp_contract P).2.1))) ∧ w = fm (cO en c κ2) ∧ ((sp_contract P).1 = 0) ∧ (CWP (sp_contract P).2.2 κ2)) := by
  refine MC.of (EN.stb en) [some (.ref (c 0)), none] 1 rfl rfl rfl (by simp [Value.category]) (Nat.le_of_ble_eq_true rfl) (fun K hK hR => ?_)
  obtain ⟨hM, hC, hp⟩ := hp
  have hN4 := hM.2.2.1
  obtain ⟨hW, hW4⟩ := hp
  have hCW : CWP P κ := ⟨hC, hW, hW4⟩
  have loop_7 : ∀ (n0 : Nat) (κ : St) (s : Int), (P 0 2 - s).toNat = n0 → (CI P κ) → (Arr P (P 0 11) (P 0 12) κ) → (WB κ 4) → (0 ≤ s ∧ s ≤ P 0 2) → (MS P (ctq P s)) → (∀ t, 0 ≤ t → t < P 0 2 → WR1 (ctq P s) κ t) → V K sX10_contract 0 0 (fm (cO en c κ)) [some (.ref (c 0)), some (.int (zI s))] [] 7 := by
    intro n0
    induction n0 using Nat.strongRecOn with
    | _ n0 ih_7 =>
    intro κ s hm_7 hC hA hW4 hs hQ hWW
    refine V_iload_n dX10_contract_7 rfl ?_
    refine V_aload_n dX10_contract_8 rfl ?_
    refine VO_getf (C0 := RX10) (T := TX10) (N := 9) (ci := 9) (fs := cwF c κ) 0 0 iwX10 (by decide) w233 (Or.inl rfl) rfl (at_cw) rfl dX10_contract_9 ?_
    refine VO_getN (C0 := RX5) (T := TX5) (N := 4) (ci := 4) (fs := prF c κ) 1 0 iwX5 (by decide) hK wn69 rfl (at_pr) rfl dX10_contract_12 ?_
    show V K sX10_contract 0 0 (fm (cO en c κ)) [some (.ref (c 0)), some (.int (zI s))] [.ref (c (35 + 8 * Int.toNat 4)), .int (zI s)] 15
    refine VO_callVF (As := []) (b := c (35 + 8 * Int.toNat 4)) (i := 35 + 8 * Int.toNat 4) (ci := 0) (fs := alF en c κ 4) (T := TJx4a65c) (N := 3) (at_al (CI.w4 _)) rfl hK (k_size4 en c κ P ⟨hM, hC⟩) mokJx4a65c_size_8abf5 w364 w270 w271 ⟨Nat.le_of_ble_eq_true rfl, Nat.le_of_ble_eq_true rfl⟩ rfl (Nat.le_of_ble_eq_true rfl) ⟨Nat.le_of_ble_eq_true rfl, Nat.le_of_ble_eq_true rfl⟩ dX10_contract_15 (fun v w p_1 => ?_)
    obtain ⟨rfl, rfl⟩ := p_1
    show V K sX10_contract 0 0 (fm (cO en c κ)) [some (.ref (c 0)), some (.int (zI s))] [.int (zI (P 0 2)), .int (zI s)] 18
    refine V_icmp_ge (tgt := 53) dX10_contract_18 (by decide) ⟨⟨by omega, by omega⟩, ⟨by omega, by omega⟩⟩ (fun c_2 => ?_) (fun c_2 => ?_)
    · refine V_aload_n dX10_contract_53 rfl ?_
      show V K sX10_contract 0 0 (fm (cO en c (ov κ (ctq P s)))) [some (.ref (c 0)), some (.int (zI s))] [.ref (c 0)] 54
      have es : s = P 0 2 := by omega
      have hk2 : ctq P s 0 2 = P 0 2 := by rw [hQ.2.keys]
      have hWR : WR (ctq P s) (ov κ (ctq P s)) := fun t a b => hWW t a (by rw [← hk2]; exact b)
      refine VO_callVF (As := []) (b := c 0) (i := 0) (ci := 9) (fs := cwF c (ov κ (ctq P s))) (T := TX10) (N := 9) (at_cw) rfl hK (k_room en c (ov κ (ctq P s)) (ctq P s) ⟨hQ.1, ci_ov hC hQ.2, hWR⟩) mokX10_room w461 w462 w463 ⟨Nat.le_of_ble_eq_true rfl, Nat.le_of_ble_eq_true rfl⟩ rfl (Nat.le_of_ble_eq_true rfl) ⟨Nat.le_of_ble_eq_true rfl, Nat.le_of_ble_eq_true rfl⟩ dX10_contract_54 (fun v w p_3 => ?_)
      obtain ⟨rfl, rfl⟩ := p_3
      show V K sX10_contract 0 0 (fm (cO en c (ov κ (ctq P s)))) [some (.ref (c 0)), some (.int (zI s))] [.int (zI (smv (sz (ctq P s)) ((ctq P s) 0 2)))] 57
      refine V_iret hR rfl (Nat.le_of_ble_eq_true rfl) (Nat.le_of_ble_eq_true rfl) dX10_contract_57 ?_
      exact pubC (sp := sp_contract P) (P' := ctq P s) (r := smv (sz (ctq P s)) (ctq P s 0 2)) (by unfold sp_contract; rw [hk2, es]) rfl ⟨ci_ov hC hQ.2, hWR, hW4⟩
    · refine V_aload_n dX10_contract_21 rfl ?_
      refine V_iload_n dX10_contract_22 rfl ?_
      refine VO_callVF (As := [.int (zI s)]) (b := c 0) (i := 0) (ci := 9) (fs := cwF c κ) (T := TX10) (N := 9) (at_cw) rfl hK (k_gatherDifferences en c κ s P (P 0 11) (P 0 12) ⟨hM, hC, hA, ⟨by omega, by omega⟩⟩) mokX10_gatherDifferences w365 w367 wps0_5 ⟨Nat.le_of_ble_eq_true rfl, Nat.le_of_ble_eq_true rfl⟩ rfl (Nat.le_of_ble_eq_true rfl) ⟨Nat.le_of_ble_eq_true rfl, Nat.le_of_ble_eq_true rfl⟩ dX10_contract_23 (fun v w p_4 => ?_)
      obtain ⟨κ_5, rfl, rfl, q_6, q_7, q_8⟩ := p_4
      show V K sX10_contract 0 0 (fm (cO en c κ_5)) [some (.ref (c 0)), some (.int (zI s))] [] 26
      have hWf : ∀ t, 0 ≤ t → t < P 0 2 → WR1 (ctq P s) κ_5 t := fun t a b => (hWW t a b).fr1 q_8 (by decide)
      refine V_aload_n dX10_contract_26 rfl ?_
      refine V_aload_n dX10_contract_27 rfl ?_
      refine VO_getf (C0 := RX10) (T := TX10) (N := 9) (ci := 9) (fs := cwF c κ_5) 0 0 iwX10 (by decide) w233 (Or.inl rfl) rfl (at_cw) rfl dX10_contract_28 ?_
      refine VO_getN (C0 := RX5) (T := TX5) (N := 4) (ci := 4) (fs := prF c κ_5) 1 0 iwX5 (by decide) hK wn69 rfl (at_pr) rfl dX10_contract_31 ?_
      show V K sX10_contract 0 0 (fm (cO en c κ_5)) [some (.ref (c 0)), some (.int (zI s))] [.ref (c (35 + 8 * Int.toNat 4)), .ref (c 0)] 34
      refine V_iload_n dX10_contract_34 rfl ?_
      refine VO_callVF (As := [.int (zI s)]) (b := c (35 + 8 * Int.toNat 4)) (i := 35 + 8 * Int.toNat 4) (ci := 0) (fs := alF en c κ_5 4) (T := TJx4a65c) (N := 3) (at_al (CI.w4 _)) rfl hK (k_get4 en c κ_5 s P ⟨hM, q_6, by first | assumption | omega | exact ⟨by omega, by omega⟩ | exact ⟨⟨by omega, by omega⟩, by omega, by omega⟩ | exact ⟨⟨by omega, by omega⟩, ⟨by omega, by omega⟩⟩ | exact ⟨⟨by omega, by omega⟩, ⟨by omega, by omega⟩, by omega, by omega⟩⟩) mokJx4a65c_get_915e3 w390 w274 w275 ⟨Nat.le_of_ble_eq_true rfl, Nat.le_of_ble_eq_true rfl⟩ rfl (Nat.le_of_ble_eq_true rfl) ⟨Nat.le_of_ble_eq_true rfl, Nat.le_of_ble_eq_true rfl⟩ dX10_contract_35 (fun v w p_9 => ?_)
      obtain ⟨rfl, rfl⟩ := p_9
      show V K sX10_contract 0 0 (fm (cO en c κ_5)) [some (.ref (c 0)), some (.int (zI s))] [.ref (c (33 + 8 * Int.toNat s)), .ref (c 0)] 38
      refine VO_castS (33 + 8 * Int.toNat s) (at_sm ((q_6).sm hM (by omega))) rfl w391 dX10_contract_38 ?_
      refine VO_getN (C0 := RX7) (T := TX7) (N := 5) (ci := 6) (fs := smF c κ_5 s) (33 + 8 * Int.toNat s) 2 iwX7 (by decide) hK wn622 rfl (at_sm ((q_6).sm hM (by omega))) rfl dX10_contract_41 ?_
      refine VO_callVF (As := [.ref (c (34 + 8 * Int.toNat s))]) (b := c 0) (i := 0) (ci := 9) (fs := cwF c κ_5) (T := TX10) (N := 9) (at_cw) rfl hK (k_keepSmallest en c κ_5 s P (ctq P s) ⟨hM, q_6, ⟨by omega, by omega⟩, q_7, (hWf s hs.1 (by omega)).2, hW4.fr q_8 (by decide), hQ⟩) mokX10_keepSmallest w392 w394 wps0_8 ⟨Nat.le_of_ble_eq_true rfl, Nat.le_of_ble_eq_true rfl⟩ rfl (Nat.le_of_ble_eq_true rfl) ⟨Nat.le_of_ble_eq_true rfl, Nat.le_of_ble_eq_true rfl⟩ dX10_contract_44 (fun v w p_10 => ?_)
      obtain ⟨κ_11, rfl, rfl, q_12, q_13, q_14, q_15⟩ := p_10
      show V K sX10_contract 0 0 (fm (cO en c κ_11)) [some (.ref (c 0)), some (.int (zI s))] [] 47
      refine V_iinc (L' := [some (.ref (c 0)), some (.int (zI (s + 1)))]) dX10_contract_47 (by decide) rfl rfl ?_
      refine V_goto (tgt := 7) dX10_contract_50 (by decide) ?_
      refine ih_7 _ (by omega) κ_11 (s + 1) rfl ?_ ?_ ?_ ?_ ?_ ?_
      · exact q_12
      · exact (hA.fr q_8 (by decide)).frS q_15
      · exact q_14
      · omega
      · exact ms_ctq hM hs.1 hQ
      · exact wr_ctq hM ⟨hs.1, by omega⟩ hWf q_15 q_13
  have seg_7 : ∀ (κ : St) (s : Int), (CI P κ) → (Arr P (P 0 11) (P 0 12) κ) → (WB κ 4) → (0 ≤ s ∧ s ≤ P 0 2) → (MS P (ctq P s)) → (∀ t, 0 ≤ t → t < P 0 2 → WR1 (ctq P s) κ t) → V K sX10_contract 0 0 (fm (cO en c κ)) [some (.ref (c 0)), some (.int (zI s))] [] 7 := fun κ s hC hA hW4 hs hQ hWW => loop_7 _ κ s rfl hC hA hW4 hs hQ hWW
  refine V_aload_n dX10_contract_0 rfl ?_
  refine VO_callVF (As := []) (b := c 0) (i := 0) (ci := 9) (fs := cwF c κ) (T := TX10) (N := 9) (at_cw) rfl hK (k_arranged en c κ P ⟨hM, hC⟩) mokX10_arranged w312 w314 wps0_0 ⟨Nat.le_of_ble_eq_true rfl, Nat.le_of_ble_eq_true rfl⟩ rfl (Nat.le_of_ble_eq_true rfl) ⟨Nat.le_of_ble_eq_true rfl, Nat.le_of_ble_eq_true rfl⟩ dX10_contract_1 (fun v w p_16 => ?_)
  obtain ⟨κ_17, rfl, rfl, q_18, q_19, q_20⟩ := p_16
  show V K sX10_contract 0 0 (fm (cO en c κ_17)) [some (.ref (c 0)), none] [.ref (c 2)] 4
  refine V_pop dX10_contract_4 rfl ?_
  refine V_iconst dX10_contract_5 ?_
  refine V_istore_n (L' := [some (.ref (c 0)), some (.int (zI 0))]) dX10_contract_6 (by decide) rfl ?_
  refine seg_7 κ_17 0 ?_ ?_ ?_ ?_ ?_ ?_
  · exact q_18
  · exact q_19
  · exact hW4.fr q_20 (by decide)
  · omega
  · exact ms_rf hM
  · exact fun t a b => (hW t a b).fr1 q_20 (by decide)

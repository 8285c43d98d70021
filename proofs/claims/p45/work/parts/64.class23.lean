/-! the class: the first wrong step -/
theorem KV.other {m m2 : Int} {g : Int → Int → Int} {κ κ2 : St} (h : KV m g κ) (hf : frN m2 κ κ2) (hm : 0 ≤ m) (hm2 : 0 ≤ m2) (hn : m ≠ m2) : KV m g κ2 := fun s q a b c d => by
  rw [hf _ (by omega)]
  exact h s q a b c d
theorem gvl_b (P : St) (m : Int) (g : Int → Int → Int) (k : Int) : 0 ≤ gvl P m g k ∧ gvl P m g k ≤ 9972 := by
  unfold gvl; omega
set_option maxRecDepth 100000 in
set_option maxHeartbeats 4000000 in
theorem k_firstWrongStep (en : Nat → Nat) (c : Nat → Nat) (κ : St) (P : St) (hp : MI P ∧ CI P κ ∧ WR P κ ∧ WB κ 4) : MC (EN en) yX10_firstWrongStep sX10_firstWrongStep [.ref (c 0)] (fm (cO en c κ)) (fun v w => ∃ κ2 : St, v = some (.int (zI ((sp_firstWrongStep P).2.1))) ∧ w = fm (cO en c κ2) ∧ ((sp_firstWrongStep P).1 = 0) ∧ (CWP (sp_firstWrongStep P).2.2 κ2)) := by
  refine MC.of (EN.stb en) [some (.ref (c 0)), none, none] 2 rfl rfl rfl (by simp [Value.category]) (Nat.le_of_ble_eq_true rfl) (fun K hK hR => ?_)
  obtain ⟨hM, hC, hp⟩ := hp
  have hN4 := hM.2.2.1
  obtain ⟨hW, hW4⟩ := hp
  have hCW : CWP P κ := ⟨hC, hW, hW4⟩
  obtain ⟨κ0, hκ0⟩ : ∃ κ0 : St, κ0 = κ := ⟨κ, rfl⟩
  have hF : fr [50, 51, 52, 53, 54, 55, 56, 57, 58, 70, 71, 72, 73, 74, 75, 76, 77] κ0 κ := by rw [hκ0]; exact fr.rf _ _
  rw [← hκ0] at hCW
  have hal := hM.als
  have hWW := hCW.2.1
  have loop_21 : ∀ (n0 : Nat) (κ : St) (t : Int), (al P - t).toNat = n0 → (CI P κ) → (fr [50, 51, 52, 53, 54, 55, 56, 57, 58, 70, 71, 72, 73, 74, 75, 76, 77] κ0 κ) → (Arr P (P 0 11) (P 0 12) κ) → (KV 0 (GS P (P 0 11) (P 0 12) 0 t) κ) → (KV 1 (GS P (P 0 11) (P 0 12) 1 t) κ) → (0 ≤ t ∧ t ≤ al P) → (∀ x, 0 ≤ x → x < t → vof P (P 0 11) (P 0 12) (ac P (P 0 11) (P 0 12) x) = cof P (P 0 11) (P 0 12) (ac P (P 0 11) (P 0 12) x)) → V K sX10_firstWrongStep 0 0 (fm (cO en c κ)) [some (.ref (c 0)), some (.int (zI t)), none] [] 21 := by
    intro n0
    induction n0 using Nat.strongRecOn with
    | _ n0 ih_21 =>
    intro κ t hm_21 hC hF hA hK0 hK1 ht hJ
    refine V_iload_n dX10_firstWrongStep_21 rfl ?_
    refine V_aload_n dX10_firstWrongStep_22 rfl ?_
    refine VO_getf (C0 := RX10) (T := TX10) (N := 9) (ci := 9) (fs := cwF c κ) 0 0 iwX10 (by decide) w233 (Or.inl rfl) rfl (at_cw) rfl dX10_firstWrongStep_23 ?_
    refine VO_callVF (As := []) (b := c 1) (i := 1) (ci := 4) (fs := prF c κ) (T := TX5) (N := 4) (at_pr) rfl hK (k_w5_cells en c κ P ⟨hM, hC⟩) mokX5_cells w300 w301 w302 ⟨Nat.le_of_ble_eq_true rfl, Nat.le_of_ble_eq_true rfl⟩ rfl (Nat.le_of_ble_eq_true rfl) ⟨Nat.le_of_ble_eq_true rfl, Nat.le_of_ble_eq_true rfl⟩ dX10_firstWrongStep_26 (fun v w p_1 => ?_)
    obtain ⟨rfl, rfl⟩ := p_1
    show V K sX10_firstWrongStep 0 0 (fm (cO en c κ)) [some (.ref (c 0)), some (.int (zI t)), none] [.int (zI (al P)), .int (zI t)] 29
    refine V_icmp_ge (tgt := 85) dX10_firstWrongStep_29 (by decide) ⟨⟨by omega, by omega⟩, ⟨by omega, by omega⟩⟩ (fun c_2 => ?_) (fun c_2 => ?_)
    · refine V_iconst dX10_firstWrongStep_85 ?_
      refine V_iret hR rfl (Nat.le_of_ble_eq_true rfl) (Nat.le_of_ble_eq_true rfl) dX10_firstWrongStep_86 ?_
      exact pubC (sp := sp_firstWrongStep P) rfl (ziE (fws_eq (Or.inl ⟨rfl, fun x a b => hJ x a (by omega)⟩))) (hCW.fr hF (by decide))
    · refine V_aload_n dX10_firstWrongStep_32 rfl ?_
      refine VO_getf (C0 := RX10) (T := TX10) (N := 9) (ci := 9) (fs := cwF c κ) 0 1 iwX10 (by decide) w234 (Or.inl rfl) rfl (at_cw) rfl dX10_firstWrongStep_33 ?_
      refine VO_getN (C0 := RX9) (T := TX9) (N := 10) (ci := 8) (fs := wkF c κ) 2 5 iwX9 (by decide) hK wn111 rfl (at_wk) rfl dX10_firstWrongStep_36 ?_
      refine V_iload_n dX10_firstWrongStep_39 rfl ?_
      refine VO_iald 8 at_wk_cellAt ⟨by omega, by omega⟩ (by decide) dX10_firstWrongStep_40 ?_
      refine V_eqT (y := zI (ac P (P 0 11) (P 0 12) t)) (congrArg zI (hA.2.2 t ht.1 (by omega))) ?_
      refine V_istore_n (L' := [some (.ref (c 0)), some (.int (zI t)), some (.int (zI (ac P (P 0 11) (P 0 12) t)))]) dX10_firstWrongStep_41 (by decide) rfl ?_
      have htl : t < al P := by omega
      have hac := ac_spec (P := P) (bw := P 0 11) (cw := P 0 12) ht.1 htl
      refine V_aload_n dX10_firstWrongStep_42 rfl ?_
      refine VO_getf (C0 := RX10) (T := TX10) (N := 9) (ci := 9) (fs := cwF c κ) 0 4 iwX10 (by decide) w237 (Or.inl rfl) rfl (at_cw) rfl dX10_firstWrongStep_43 ?_
      show V K sX10_firstWrongStep 0 0 (fm (cO en c κ)) [some (.ref (c 0)), some (.int (zI t)), some (.int (zI (ac P (P 0 11) (P 0 12) t)))] [.ref (c (18 + 6 * Int.toNat 0))] 46
      refine V_aload_n dX10_firstWrongStep_46 rfl ?_
      refine VO_getf (C0 := RX10) (T := TX10) (N := 9) (ci := 9) (fs := cwF c κ) 0 0 iwX10 (by decide) w233 (Or.inl rfl) rfl (at_cw) rfl dX10_firstWrongStep_47 ?_
      refine V_aload_n dX10_firstWrongStep_50 rfl ?_
      refine VO_getf (C0 := RX10) (T := TX10) (N := 9) (ci := 9) (fs := cwF c κ) 0 1 iwX10 (by decide) w234 (Or.inl rfl) rfl (at_cw) rfl dX10_firstWrongStep_51 ?_
      refine V_iload_n dX10_firstWrongStep_54 rfl ?_
      refine VO_callVF (As := [.ref (c 1), .ref (c 2), .int (zI (ac P (P 0 11) (P 0 12) t))]) (b := c (18 + 6 * Int.toNat 0)) (i := 18 + 6 * Int.toNat 0) (ci := 3) (fs := mcF c 0) (T := TX4) (N := 2) (at_mc (by first | assumption | exact ⟨⟨by omega, by omega⟩, Or.inl rfl⟩ | exact ⟨⟨by omega, by omega⟩, Or.inr (by omega)⟩ | exact ⟨⟨by omega, by omega⟩, by omega⟩ | exact ⟨⟨by omega, by omega⟩, ⟨by omega, by omega⟩, by omega, by omega⟩ | exact ⟨by omega, by omega⟩)) rfl hK (k_w4_doStep en c κ 0 (ac P (P 0 11) (P 0 12) t) P (P 0 11) (P 0 12) (GS P (P 0 11) (P 0 12) 0 t) ⟨hM, hC, ⟨by omega, by omega⟩, hWW.fr hF (by decide), hK0, hA, GS_b _ _ _ _ ht.1, ⟨hac.1, hac.2.1⟩⟩) mokX4_doStep w479 w480 w481 ⟨Nat.le_of_ble_eq_true rfl, Nat.le_of_ble_eq_true rfl⟩ rfl (Nat.le_of_ble_eq_true rfl) ⟨Nat.le_of_ble_eq_true rfl, Nat.le_of_ble_eq_true rfl⟩ dX10_firstWrongStep_55 (fun v w p_3 => ?_)
      obtain ⟨κ_4, rfl, rfl, q_5, q_6, q_7⟩ := p_3
      show V K sX10_firstWrongStep 0 0 (fm (cO en c κ_4)) [some (.ref (c 0)), some (.int (zI t)), some (.int (zI (ac P (P 0 11) (P 0 12) t)))] [.int (zI (gvl P 0 (GS P (P 0 11) (P 0 12) 0 t) (ac P (P 0 11) (P 0 12) t)))] 58
      refine V_aload_n dX10_firstWrongStep_58 rfl ?_
      refine VO_getf (C0 := RX10) (T := TX10) (N := 9) (ci := 9) (fs := cwF c κ_4) 0 5 iwX10 (by decide) w238 (Or.inl rfl) rfl (at_cw) rfl dX10_firstWrongStep_59 ?_
      show V K sX10_firstWrongStep 0 0 (fm (cO en c κ_4)) [some (.ref (c 0)), some (.int (zI t)), some (.int (zI (ac P (P 0 11) (P 0 12) t)))] [.ref (c (18 + 6 * Int.toNat 1)), .int (zI (gvl P 0 (GS P (P 0 11) (P 0 12) 0 t) (ac P (P 0 11) (P 0 12) t)))] 62
      refine V_aload_n dX10_firstWrongStep_62 rfl ?_
      refine VO_getf (C0 := RX10) (T := TX10) (N := 9) (ci := 9) (fs := cwF c κ_4) 0 0 iwX10 (by decide) w233 (Or.inl rfl) rfl (at_cw) rfl dX10_firstWrongStep_63 ?_
      refine V_aload_n dX10_firstWrongStep_66 rfl ?_
      refine VO_getf (C0 := RX10) (T := TX10) (N := 9) (ci := 9) (fs := cwF c κ_4) 0 1 iwX10 (by decide) w234 (Or.inl rfl) rfl (at_cw) rfl dX10_firstWrongStep_67 ?_
      refine V_iload_n dX10_firstWrongStep_70 rfl ?_
      refine VO_callVF (As := [.ref (c 1), .ref (c 2), .int (zI (ac P (P 0 11) (P 0 12) t))]) (b := c (18 + 6 * Int.toNat 1)) (i := 18 + 6 * Int.toNat 1) (ci := 3) (fs := mcF c 1) (T := TX4) (N := 2) (at_mc (by first | assumption | exact ⟨⟨by omega, by omega⟩, Or.inl rfl⟩ | exact ⟨⟨by omega, by omega⟩, Or.inr (by omega)⟩ | exact ⟨⟨by omega, by omega⟩, by omega⟩ | exact ⟨⟨by omega, by omega⟩, ⟨by omega, by omega⟩, by omega, by omega⟩ | exact ⟨by omega, by omega⟩)) rfl hK (k_w4_doStep en c κ_4 1 (ac P (P 0 11) (P 0 12) t) P (P 0 11) (P 0 12) (GS P (P 0 11) (P 0 12) 1 t) ⟨hM, q_5, ⟨by omega, by omega⟩, (hWW.fr hF (by decide)).frM (q_6.frM ⟨by omega, by omega⟩), hK1.other q_6 (by decide) (by decide) (by decide), hA.frM (q_6.frM ⟨by omega, by omega⟩), GS_b _ _ _ _ ht.1, ⟨hac.1, hac.2.1⟩⟩) mokX4_doStep w479 w480 w481 ⟨Nat.le_of_ble_eq_true rfl, Nat.le_of_ble_eq_true rfl⟩ rfl (Nat.le_of_ble_eq_true rfl) ⟨Nat.le_of_ble_eq_true rfl, Nat.le_of_ble_eq_true rfl⟩ dX10_firstWrongStep_71 (fun v w p_8 => ?_)
      obtain ⟨κ_9, rfl, rfl, q_10, q_11, q_12⟩ := p_8
      show V K sX10_firstWrongStep 0 0 (fm (cO en c κ_9)) [some (.ref (c 0)), some (.int (zI t)), some (.int (zI (ac P (P 0 11) (P 0 12) t)))] [.int (zI (gvl P 1 (GS P (P 0 11) (P 0 12) 1 t) (ac P (P 0 11) (P 0 12) t))), .int (zI (gvl P 0 (GS P (P 0 11) (P 0 12) 0 t) (ac P (P 0 11) (P 0 12) t)))] 74
      have hv0 := gvl_b P 0 (GS P (P 0 11) (P 0 12) 0 t) (ac P (P 0 11) (P 0 12) t)
      have hv1 := gvl_b P 1 (GS P (P 0 11) (P 0 12) 1 t) (ac P (P 0 11) (P 0 12) t)
      have hg0 : gvl P 0 (GS P (P 0 11) (P 0 12) 0 t) (ac P (P 0 11) (P 0 12) t) = vof P (P 0 11) (P 0 12) (ac P (P 0 11) (P 0 12) t) := (gvl_VL hM ⟨by omega, by omega⟩ ht.1 htl).trans (if_pos rfl)
      have hg1 : gvl P 1 (GS P (P 0 11) (P 0 12) 1 t) (ac P (P 0 11) (P 0 12) t) = cof P (P 0 11) (P 0 12) (ac P (P 0 11) (P 0 12) t) := (gvl_VL hM ⟨by omega, by omega⟩ ht.1 htl).trans (if_neg (by decide))
      refine V_icmp_eq (tgt := 79) dX10_firstWrongStep_74 (by decide) ⟨⟨by omega, by omega⟩, ⟨by omega, by omega⟩⟩ (fun c_13 => ?_) (fun c_13 => ?_)
      · refine V_iinc (L' := [some (.ref (c 0)), some (.int (zI (t + 1))), some (.int (zI (ac P (P 0 11) (P 0 12) t)))]) dX10_firstWrongStep_79 (by decide) rfl rfl ?_
        refine V_goto (tgt := 21) dX10_firstWrongStep_82 (by decide) ?_
        refine V_mask (L' := [some (.ref (c 0)), some (.int (zI (t + 1))), none]) [true, true, false] rfl ?_
        refine ih_21 _ (by omega) κ_9 (t + 1) rfl ?_ ?_ ?_ ?_ ?_ ?_ ?_
        · exact q_10
        · exact (hF.tr ((q_6.fr ⟨by omega, by omega⟩).mono (by decide))).tr ((q_11.fr ⟨by omega, by omega⟩).mono (by decide))
        · exact (hA.frM (q_6.frM ⟨by omega, by omega⟩)).frM (q_11.frM ⟨by omega, by omega⟩)
        · exact (KV.next hM ⟨by omega, by omega⟩ ht.1 htl q_7).other q_11 (by decide) (by decide) (by decide)
        · exact KV.next hM ⟨by omega, by omega⟩ ht.1 htl q_12
        · omega
        · exact fun x a b => by
            by_cases e : x = t
            · rw [e, ← hg0, ← hg1]; exact c_13
            · exact hJ x a (by omega)
      · refine V_iload_n dX10_firstWrongStep_77 rfl ?_
        refine V_iret hR rfl (Nat.le_of_ble_eq_true rfl) (Nat.le_of_ble_eq_true rfl) dX10_firstWrongStep_78 ?_
        exact pubC (sp := sp_firstWrongStep P) rfl (ziE (fws_eq (Or.inr ⟨ht.1, htl, by rw [← hg0, ← hg1]; exact c_13, hJ⟩))) ((hCW.fr hF (by decide)).fr (((q_6.fr ⟨by omega, by omega⟩)).tr (q_11.fr ⟨by omega, by omega⟩)) (by decide))
  have seg_21 : ∀ (κ : St) (t : Int), (CI P κ) → (fr [50, 51, 52, 53, 54, 55, 56, 57, 58, 70, 71, 72, 73, 74, 75, 76, 77] κ0 κ) → (Arr P (P 0 11) (P 0 12) κ) → (KV 0 (GS P (P 0 11) (P 0 12) 0 t) κ) → (KV 1 (GS P (P 0 11) (P 0 12) 1 t) κ) → (0 ≤ t ∧ t ≤ al P) → (∀ x, 0 ≤ x → x < t → vof P (P 0 11) (P 0 12) (ac P (P 0 11) (P 0 12) x) = cof P (P 0 11) (P 0 12) (ac P (P 0 11) (P 0 12) x)) → V K sX10_firstWrongStep 0 0 (fm (cO en c κ)) [some (.ref (c 0)), some (.int (zI t)), none] [] 21 := fun κ t hC hF hA hK0 hK1 ht hJ => loop_21 _ κ t rfl hC hF hA hK0 hK1 ht hJ
  refine V_aload_n dX10_firstWrongStep_0 rfl ?_
  refine VO_callVF (As := []) (b := c 0) (i := 0) (ci := 9) (fs := cwF c κ) (T := TX10) (N := 9) (at_cw) rfl hK (k_arranged en c κ P ⟨hM, hC⟩) mokX10_arranged w312 w314 wps0_0 ⟨Nat.le_of_ble_eq_true rfl, Nat.le_of_ble_eq_true rfl⟩ rfl (Nat.le_of_ble_eq_true rfl) ⟨Nat.le_of_ble_eq_true rfl, Nat.le_of_ble_eq_true rfl⟩ dX10_firstWrongStep_1 (fun v w p_14 => ?_)
  obtain ⟨κ_15, rfl, rfl, q_16, q_17, q_18⟩ := p_14
  show V K sX10_firstWrongStep 0 0 (fm (cO en c κ_15)) [some (.ref (c 0)), none, none] [.ref (c 2)] 4
  refine V_pop dX10_firstWrongStep_4 rfl ?_
  refine V_aload_n dX10_firstWrongStep_5 rfl ?_
  refine VO_getf (C0 := RX10) (T := TX10) (N := 9) (ci := 9) (fs := cwF c κ_15) 0 4 iwX10 (by decide) w237 (Or.inl rfl) rfl (at_cw) rfl dX10_firstWrongStep_6 ?_
  show V K sX10_firstWrongStep 0 0 (fm (cO en c κ_15)) [some (.ref (c 0)), none, none] [.ref (c (18 + 6 * Int.toNat 0))] 9
  refine VO_callVF (As := []) (b := c (18 + 6 * Int.toNat 0)) (i := 18 + 6 * Int.toNat 0) (ci := 3) (fs := mcF c 0) (T := TX4) (N := 2) (at_mc (by first | assumption | exact ⟨⟨by omega, by omega⟩, Or.inl rfl⟩ | exact ⟨⟨by omega, by omega⟩, Or.inr (by omega)⟩ | exact ⟨⟨by omega, by omega⟩, by omega⟩ | exact ⟨⟨by omega, by omega⟩, ⟨by omega, by omega⟩, by omega, by omega⟩ | exact ⟨by omega, by omega⟩)) rfl hK (k_w4_empty en c κ_15 0 P ⟨hM, q_16, ⟨by omega, by omega⟩⟩) mokX4_empty w474 w475 w476 ⟨Nat.le_of_ble_eq_true rfl, Nat.le_of_ble_eq_true rfl⟩ rfl (Nat.le_of_ble_eq_true rfl) ⟨Nat.le_of_ble_eq_true rfl, Nat.le_of_ble_eq_true rfl⟩ dX10_firstWrongStep_9 (fun v w p_19 => ?_)
  obtain ⟨κ_20, rfl, rfl, q_21, q_22, q_23⟩ := p_19
  show V K sX10_firstWrongStep 0 0 (fm (cO en c κ_20)) [some (.ref (c 0)), none, none] [] 12
  refine V_aload_n dX10_firstWrongStep_12 rfl ?_
  refine VO_getf (C0 := RX10) (T := TX10) (N := 9) (ci := 9) (fs := cwF c κ_20) 0 5 iwX10 (by decide) w238 (Or.inl rfl) rfl (at_cw) rfl dX10_firstWrongStep_13 ?_
  show V K sX10_firstWrongStep 0 0 (fm (cO en c κ_20)) [some (.ref (c 0)), none, none] [.ref (c (18 + 6 * Int.toNat 1))] 16
  refine VO_callVF (As := []) (b := c (18 + 6 * Int.toNat 1)) (i := 18 + 6 * Int.toNat 1) (ci := 3) (fs := mcF c 1) (T := TX4) (N := 2) (at_mc (by first | assumption | exact ⟨⟨by omega, by omega⟩, Or.inl rfl⟩ | exact ⟨⟨by omega, by omega⟩, Or.inr (by omega)⟩ | exact ⟨⟨by omega, by omega⟩, by omega⟩ | exact ⟨⟨by omega, by omega⟩, ⟨by omega, by omega⟩, by omega, by omega⟩ | exact ⟨by omega, by omega⟩)) rfl hK (k_w4_empty en c κ_20 1 P ⟨hM, q_21, ⟨by omega, by omega⟩⟩) mokX4_empty w474 w475 w476 ⟨Nat.le_of_ble_eq_true rfl, Nat.le_of_ble_eq_true rfl⟩ rfl (Nat.le_of_ble_eq_true rfl) ⟨Nat.le_of_ble_eq_true rfl, Nat.le_of_ble_eq_true rfl⟩ dX10_firstWrongStep_16 (fun v w p_24 => ?_)
  obtain ⟨κ_25, rfl, rfl, q_26, q_27, q_28⟩ := p_24
  show V K sX10_firstWrongStep 0 0 (fm (cO en c κ_25)) [some (.ref (c 0)), none, none] [] 19
  refine V_iconst dX10_firstWrongStep_19 ?_
  refine V_istore_n (L' := [some (.ref (c 0)), some (.int (zI 0)), none]) dX10_firstWrongStep_20 (by decide) rfl ?_
  refine seg_21 κ_25 0 ?_ ?_ ?_ ?_ ?_ ?_ ?_
  · exact q_26
  · exact ((hF.tr (q_18.mono (by decide))).tr ((q_22.fr ⟨by omega, by omega⟩).mono (by decide))).tr ((q_27.fr ⟨by omega, by omega⟩).mono (by decide))
  · exact (q_17.frM (q_22.frM ⟨by omega, by omega⟩)).frM (q_27.frM ⟨by omega, by omega⟩)
  · exact KV.start (q_23.other q_27 (by decide) (by decide) (by decide))
  · exact KV.start q_28
  · omega
  · exact fun x a b => absurd b (by omega)

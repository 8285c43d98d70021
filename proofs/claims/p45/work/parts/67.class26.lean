/-! the class: pairs in conflict -/
noncomputable def TP2 (P : St) (s x : Int) : Int := ct (fun b => decide (x + 1 ≤ b) && cf P (P 0 11) (P 0 12) (s * pt P + x) (s * pt P + b)) (pt P)
theorem TP2_eq {P : St} {s x : Int} (hx : 0 ≤ x) (hxn : x < pt P) : TP2 P s x = ct (fun p => cf P (P 0 11) (P 0 12) (s * pt P + x) (s * pt P + x + 1 + p)) (pt P - x - 1) := by
  unfold TP2
  have h := ct_tail (p := fun b => cf P (P 0 11) (P 0 12) (s * pt P + x) (s * pt P + b)) (lo := x + 1) (by omega) (pt P - x - 1) (by omega)
  rw [show x + 1 + (pt P - x - 1) = pt P by omega] at h
  rw [h]
  refine ct_congr _ (by omega) (fun j _ _ => ?_)
  rw [show s * pt P + (x + 1 + j) = s * pt P + x + 1 + j by omega]
theorem cpr_eq (P : St) (hM : MI P) (s : Int) : smv (TP2 P s) (pt P) = cpr P s / 2 := by
  have h := pairs (g := fun a b => cf P (P 0 11) (P 0 12) (s * pt P + a) (s * pt P + b)) (fun a b => cf_sym _ _ _ _ _) (fun a => cf_self _ _ _ _) (pt P) (by have := hM.pts; omega)
  have e : smv (TP2 P s) (pt P) = smv (fun a => ct (fun b => decide (a + 1 ≤ b) && cf P (P 0 11) (P 0 12) (s * pt P + a) (s * pt P + b)) (pt P)) (pt P) := rfl
  unfold cpr
  rw [h, e]
  omega
set_option maxRecDepth 100000 in
set_option maxHeartbeats 4000000 in
theorem k_conflictPairs (en : Nat → Nat) (c : Nat → Nat) (κ : St) (s : Int) (P : St) (hp : MI P ∧ CI P κ ∧ iR s ∧ WR P κ ∧ WB κ 4) : MCX (EN en) yX10_conflictPairs sX10_conflictPairs [.ref (c 0), .int (zI s)] (fm (cO en c κ)) (fun v w => ∃ κ2 : St, v = some (.int (zI ((sp_conflictPairs P s).2.1))) ∧ w = fm (cO en c κ2) ∧ ((sp_conflictPairs P s).1 = 0) ∧ (CWP (sp_conflictPairs P s).2.2 κ2)) (XP1 en c (sp_conflictPairs P s) P [(1, IOBs)]) := by
  refine MCX.of (EN.stb en) [some (.ref (c 0)), some (.int (zI s)), none, none, none] 3 rfl rfl rfl (by simp [Value.category]) (Nat.le_of_ble_eq_true rfl) (fun K hK hR hX => ?_)
  obtain ⟨hM, hC, hp⟩ := hp
  have hN4 := hM.2.2.1
  obtain ⟨hr_s, hW, hW4⟩ := hp
  have hCW : CWP P κ := ⟨hC, hW, hW4⟩
  unfold iR at hr_s
  obtain ⟨κ0, hκ0⟩ : ∃ κ0 : St, κ0 = κ := ⟨κ, rfl⟩
  have hF : fr [50, 51, 52, 53, 54, 55, 56, 57, 58] κ0 κ := by rw [hκ0]; exact fr.rf _ _
  have hCW0 : CWP P κ0 := by rw [hκ0]; exact hCW
  have loop_33 : ∀ (n0 : Nat) (κ : St) (n : Int) (a : Int), (s * pt P + pt P - a).toNat = n0 → (CI P κ) → (fr [50, 51, 52, 53, 54, 55, 56, 57, 58] κ0 κ) → (Arr P (P 0 11) (P 0 12) κ) → (0 ≤ s ∧ s < P 0 2) → (s * pt P ≤ a ∧ a ≤ s * pt P + pt P) → (n = smv (TP2 P s) (a - s * pt P)) → V K sX10_conflictPairs 1 6 (fm (cO en c κ)) [some (.ref (c 0)), some (.int (zI s)), some (.int (zI n)), some (.int (zI ((s + 1) * pt P))), some (.int (zI a))] [] 33 := by
    intro n0
    induction n0 using Nat.strongRecOn with
    | _ n0 ih_33 =>
    intro κ n a hm_33 hC hF hA hs ha hn
    refine V_iload dX10_conflictPairs_33 rfl ?_
    have hpt := hM.pts
    have hal := hM.als
    have s1 : (s + 1) * pt P = s * pt P + pt P := by rw [Int.add_mul, Int.one_mul]
    have c1s := comp_eq hM hs.1 hs.2 (show (0 : Int) ≤ 0 by omega) (show 0 < pt P by omega)
    have c2s := comp_eq hM hs.1 hs.2 (show 0 ≤ pt P - 1 by omega) (show pt P - 1 < pt P by omega)
    refine V_iload_n dX10_conflictPairs_35 rfl ?_
    refine V_icmp_ge (tgt := 62) dX10_conflictPairs_36 (by decide) ⟨⟨by omega, by omega⟩, ⟨by omega, by omega⟩⟩ (fun c_1 => ?_) (fun c_1 => ?_)
    · refine V_iload_n dX10_conflictPairs_62 rfl ?_
      refine V_iret hR rfl (Nat.le_of_ble_eq_true rfl) (Nat.le_of_ble_eq_true rfl) dX10_conflictPairs_63 ?_
      exact pubC (sp := sp_conflictPairs P s) (gd_t hs) (ziE (by rw [hn, show a - s * pt P = pt P by omega]; exact cpr_eq P hM s)) (hCW0.fr hF (by decide))
    · refine V_iload_n dX10_conflictPairs_39 rfl ?_
      refine V_aload_n dX10_conflictPairs_40 rfl ?_
      refine VO_getf (C0 := RX10) (T := TX10) (N := 9) (ci := 9) (fs := cwF c κ) 0 1 iwX10 (by decide) w234 (Or.inl rfl) rfl (at_cw) rfl dX10_conflictPairs_41 ?_
      refine V_iload dX10_conflictPairs_44 rfl ?_
      refine V_iload dX10_conflictPairs_46 rfl ?_
      refine V_iconst dX10_conflictPairs_48 ?_
      refine V_iadd dX10_conflictPairs_49 ?_
      refine V_iload_n dX10_conflictPairs_50 rfl ?_
      refine VO_callVF (As := [.int (zI a), .int (zI (a + 1)), .int (zI ((s + 1) * pt P))]) (b := c 2) (i := 2) (ci := 8) (fs := wkF c κ) (T := TX9) (N := 10) (at_wk) rfl hK (k_w9_countConflicts en c κ a (a + 1) ((s + 1) * pt P) P (P 0 11) (P 0 12) ⟨hM, hC, hA, ⟨by omega, by omega⟩, ⟨by omega, by omega, by omega⟩⟩) mokX9_countConflicts w904 w905 w906 ⟨Nat.le_of_ble_eq_true rfl, Nat.le_of_ble_eq_true rfl⟩ rfl (Nat.le_of_ble_eq_true rfl) ⟨Nat.le_of_ble_eq_true rfl, Nat.le_of_ble_eq_true rfl⟩ dX10_conflictPairs_51 (fun v w p_2 => ?_)
      obtain ⟨rfl, rfl⟩ := p_2
      show V K sX10_conflictPairs 1 6 (fm (cO en c κ)) [some (.ref (c 0)), some (.int (zI s)), some (.int (zI n)), some (.int (zI ((s + 1) * pt P))), some (.int (zI a))] [.int (zI (ct (fun p => cf P (P 0 11) (P 0 12) a ((a + 1) + p)) (((s + 1) * pt P) - (a + 1)))), .int (zI n)] 54
      refine V_iadd dX10_conflictPairs_54 ?_
      refine V_istore_n (L' := [some (.ref (c 0)), some (.int (zI s)), some (.int (zI (n + (ct (fun p => cf P (P 0 11) (P 0 12) a ((a + 1) + p)) (((s + 1) * pt P) - (a + 1)))))), some (.int (zI ((s + 1) * pt P))), some (.int (zI a))]) dX10_conflictPairs_55 (by decide) rfl ?_
      refine V_iinc (L' := [some (.ref (c 0)), some (.int (zI s)), some (.int (zI (n + (ct (fun p => cf P (P 0 11) (P 0 12) a ((a + 1) + p)) (((s + 1) * pt P) - (a + 1)))))), some (.int (zI ((s + 1) * pt P))), some (.int (zI (a + 1)))]) dX10_conflictPairs_56 (by decide) rfl rfl ?_
      refine V_goto (tgt := 33) dX10_conflictPairs_59 (by decide) ?_
      refine ih_33 _ (by omega) κ (n + (ct (fun p => cf P (P 0 11) (P 0 12) a ((a + 1) + p)) (((s + 1) * pt P) - (a + 1)))) (a + 1) rfl ?_ ?_ ?_ ?_ ?_ ?_
      · exact hC
      · exact hF
      · exact hA
      · omega
      · omega
      · rw [show a + 1 - s * pt P = (a - s * pt P) + 1 by omega, smv_s _ (by omega), TP2_eq (by omega) (by omega), show s * pt P + (a - s * pt P) = a by omega, show pt P - (a - s * pt P) - 1 = (s + 1) * pt P - (a + 1) by omega, hn]
  have seg_33 : ∀ (κ : St) (n : Int) (a : Int), (CI P κ) → (fr [50, 51, 52, 53, 54, 55, 56, 57, 58] κ0 κ) → (Arr P (P 0 11) (P 0 12) κ) → (0 ≤ s ∧ s < P 0 2) → (s * pt P ≤ a ∧ a ≤ s * pt P + pt P) → (n = smv (TP2 P s) (a - s * pt P)) → V K sX10_conflictPairs 1 6 (fm (cO en c κ)) [some (.ref (c 0)), some (.int (zI s)), some (.int (zI n)), some (.int (zI ((s + 1) * pt P))), some (.int (zI a))] [] 33 := fun κ n a hC hF hA hs ha hn => loop_33 _ κ n a rfl hC hF hA hs ha hn
  refine V_aload_n dX10_conflictPairs_0 rfl ?_
  refine V_iload_n dX10_conflictPairs_1 rfl ?_
  refine VO_callXVF (As := [.int (zI s)]) (b := c 0) (i := 0) (ci := 9) (fs := cwF c κ) (T := TX10) (N := 9) (at_cw) rfl hK (k_requireStatement en c κ s P ⟨hM, hC, hr_s⟩) mokX10_requireStatement w704 w706 wps1_1 ⟨Nat.le_of_ble_eq_true rfl, Nat.le_of_ble_eq_true rfl⟩ rfl (Nat.le_of_ble_eq_true rfl) ⟨Nat.le_of_ble_eq_true rfl, Nat.le_of_ble_eq_true rfl⟩ dX10_conflictPairs_2 hX (fun X w h => XP1.of (gd_f h.2.2) h.1 (by decide) h.2.1 hCW) (Nat.le_of_ble_eq_true rfl) (Nat.le_of_ble_eq_true rfl) (fun v w p_3 => ?_)
  obtain ⟨rfl, rfl, q_4⟩ := p_3
  show V K sX10_conflictPairs 1 6 (fm (cO en c κ)) [some (.ref (c 0)), some (.int (zI s)), none, none, none] [] 5
  refine V_aload_n dX10_conflictPairs_5 rfl ?_
  refine VO_callVF (As := []) (b := c 0) (i := 0) (ci := 9) (fs := cwF c κ) (T := TX10) (N := 9) (at_cw) rfl hK (k_arranged en c κ P ⟨hM, hC⟩) mokX10_arranged w312 w314 wps0_0 ⟨Nat.le_of_ble_eq_true rfl, Nat.le_of_ble_eq_true rfl⟩ rfl (Nat.le_of_ble_eq_true rfl) ⟨Nat.le_of_ble_eq_true rfl, Nat.le_of_ble_eq_true rfl⟩ dX10_conflictPairs_6 (fun v w p_5 => ?_)
  obtain ⟨κ_6, rfl, rfl, q_7, q_8, q_9⟩ := p_5
  show V K sX10_conflictPairs 1 6 (fm (cO en c κ_6)) [some (.ref (c 0)), some (.int (zI s)), none, none, none] [.ref (c 2)] 9
  refine V_pop dX10_conflictPairs_9 rfl ?_
  have hs := q_4
  have hpt := hM.pts
  have hal := hM.als
  have s1 : (s + 1) * pt P = s * pt P + pt P := by rw [Int.add_mul, Int.one_mul]
  have c1s := comp_eq hM q_4.1 q_4.2 (show (0 : Int) ≤ 0 by omega) (show 0 < pt P by omega)
  have c2s := comp_eq hM q_4.1 q_4.2 (show 0 ≤ pt P - 1 by omega) (show pt P - 1 < pt P by omega)
  refine V_iconst dX10_conflictPairs_10 ?_
  refine V_istore_n (L' := [some (.ref (c 0)), some (.int (zI s)), some (.int (zI 0)), none, none]) dX10_conflictPairs_11 (by decide) rfl ?_
  refine V_aload_n dX10_conflictPairs_12 rfl ?_
  refine VO_getf (C0 := RX10) (T := TX10) (N := 9) (ci := 9) (fs := cwF c κ_6) 0 0 iwX10 (by decide) w233 (Or.inl rfl) rfl (at_cw) rfl dX10_conflictPairs_13 ?_
  refine V_iload_n dX10_conflictPairs_16 rfl ?_
  refine V_iconst dX10_conflictPairs_17 ?_
  refine V_iadd dX10_conflictPairs_18 ?_
  refine VO_callVF (As := [.int (zI (s + 1))]) (b := c 1) (i := 1) (ci := 4) (fs := prF c κ_6) (T := TX5) (N := 4) (at_pr) rfl hK (k_w5_firstCell en c κ_6 (s + 1) P ⟨hM, q_7, by first | assumption | omega | exact ⟨by omega, by omega⟩ | exact ⟨⟨by omega, by omega⟩, by omega, by omega⟩ | exact ⟨⟨by omega, by omega⟩, ⟨by omega, by omega⟩⟩ | exact ⟨⟨by omega, by omega⟩, ⟨by omega, by omega⟩, by omega, by omega⟩⟩) mokX5_firstCell w899 w305 w306 ⟨Nat.le_of_ble_eq_true rfl, Nat.le_of_ble_eq_true rfl⟩ rfl (Nat.le_of_ble_eq_true rfl) ⟨Nat.le_of_ble_eq_true rfl, Nat.le_of_ble_eq_true rfl⟩ dX10_conflictPairs_19 (fun v w p_10 => ?_)
  obtain ⟨rfl, rfl⟩ := p_10
  show V K sX10_conflictPairs 1 6 (fm (cO en c κ_6)) [some (.ref (c 0)), some (.int (zI s)), some (.int (zI 0)), none, none] [.int (zI ((s + 1) * pt P))] 22
  refine V_istore_n (L' := [some (.ref (c 0)), some (.int (zI s)), some (.int (zI 0)), some (.int (zI ((s + 1) * pt P))), none]) dX10_conflictPairs_22 (by decide) rfl ?_
  refine V_aload_n dX10_conflictPairs_23 rfl ?_
  refine VO_getf (C0 := RX10) (T := TX10) (N := 9) (ci := 9) (fs := cwF c κ_6) 0 0 iwX10 (by decide) w233 (Or.inl rfl) rfl (at_cw) rfl dX10_conflictPairs_24 ?_
  refine V_iload_n dX10_conflictPairs_27 rfl ?_
  refine VO_callVF (As := [.int (zI s)]) (b := c 1) (i := 1) (ci := 4) (fs := prF c κ_6) (T := TX5) (N := 4) (at_pr) rfl hK (k_w5_firstCell en c κ_6 s P ⟨hM, q_7, by first | assumption | omega | exact ⟨by omega, by omega⟩ | exact ⟨⟨by omega, by omega⟩, by omega, by omega⟩ | exact ⟨⟨by omega, by omega⟩, ⟨by omega, by omega⟩⟩ | exact ⟨⟨by omega, by omega⟩, ⟨by omega, by omega⟩, by omega, by omega⟩⟩) mokX5_firstCell w899 w305 w306 ⟨Nat.le_of_ble_eq_true rfl, Nat.le_of_ble_eq_true rfl⟩ rfl (Nat.le_of_ble_eq_true rfl) ⟨Nat.le_of_ble_eq_true rfl, Nat.le_of_ble_eq_true rfl⟩ dX10_conflictPairs_28 (fun v w p_11 => ?_)
  obtain ⟨rfl, rfl⟩ := p_11
  show V K sX10_conflictPairs 1 6 (fm (cO en c κ_6)) [some (.ref (c 0)), some (.int (zI s)), some (.int (zI 0)), some (.int (zI ((s + 1) * pt P))), none] [.int (zI (s * pt P))] 31
  refine V_istore (L' := [some (.ref (c 0)), some (.int (zI s)), some (.int (zI 0)), some (.int (zI ((s + 1) * pt P))), some (.int (zI (s * pt P)))]) dX10_conflictPairs_31 (by decide) rfl ?_
  refine seg_33 κ_6 0 (s * pt P) ?_ ?_ ?_ ?_ ?_ ?_
  · exact q_7
  · exact hF.tr q_9
  · exact q_8
  · exact q_4
  · omega
  · rw [Int.sub_self]; rfl

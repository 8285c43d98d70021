/-! the class: the work arranged -/
theorem TP.of {P κ κ2 : St} {bw cw n : Int} (h : TP P bw cw n κ) (e1 : κ2 51 = κ 51) (e2 : κ2 52 = κ 52) (e3 : κ2 53 = κ 53) (e4 : κ2 57 = κ 57) : TP P bw cw n κ2 := by
  unfold TP
  rw [e1, e2, e3, e4]
  exact h
theorem BA.of {P κ κ2 : St} {bw cw : Int} (h : BA P bw cw κ) (e1 : κ2 54 = κ 54) (e2 : κ2 56 = κ 56) : BA P bw cw κ2 := by
  unfold BA
  rw [e1, e2]
  exact h
theorem Arr.mk' {P κ : St} {bw cw : Int} (h0 : κ 50 0 = al P) (hT : TP P bw cw (al P) κ) (hB : BA P bw cw κ) (hE : ∀ k, 0 ≤ k → k < al P → κ 55 k = en P bw cw k) : Arr P bw cw κ :=
  ⟨h0, fun k a b => ⟨(hT k a b).1, (hB k a b).1, hE k a b⟩, fun t a b => by
    obtain ⟨h1, h2, h3⟩ := ac_spec (bw := bw) (cw := cw) a b
    have := (hB _ h1 h2).2
    rw [h3] at this
    exact this⟩
set_option maxRecDepth 100000 in
set_option maxHeartbeats 4000000 in
theorem k_w9_setEnds (en : Nat → Nat) (c : Nat → Nat) (κ : St) (P : St) (bw cw : Int) (hp : MI P ∧ CI P κ ∧ κ 50 0 = al P ∧ TP P bw cw (al P) κ ∧ BA P bw cw κ) : MC (EN en) yX9_setEnds sX9_setEnds [.ref (c 2), .ref (c 1)] (fm (cO en c κ)) (fun v w => ∃ κ2 : St, v = none ∧ w = fm (cO en c κ2) ∧ (CI P κ2) ∧ (∀ k, 0 ≤ k → k < al P → κ2 55 k = enE P bw cw k) ∧ (fr [55] κ κ2)) := by
  refine MC.of (EN.stb en) [some (.ref (c 2)), some (.ref (c 1)), none, none, none] 3 rfl rfl rfl (by simp [Value.category]) (Nat.le_of_ble_eq_true rfl) (fun K hK hR => ?_)
  obtain ⟨hM, hC, hp⟩ := hp
  have hN4 := hM.2.2.1
  obtain ⟨h50, hT, hB⟩ := hp
  obtain ⟨κ0, hκ0⟩ : ∃ κ0 : St, κ0 = κ := ⟨κ, rfl⟩
  have hF : fr [55] κ0 κ := by rw [hκ0]; exact fr.rf _ _
  have hal := hM.als
  rw [← hκ0] at h50 hT hB
  have loop_61 : ∀ (n0 : Nat) (κ : St) (k : Int), (al P - k).toNat = n0 → (CI P κ) → (0 ≤ k ∧ k ≤ al P) → (fr [55] κ0 κ) → (∀ q, 0 ≤ q → q < al P → EndS (R2 P bw cw k 0 q) (eb P bw cw q) (κ 55 q)) → V K sX9_setEnds 0 0 (fm (cO en c κ)) [some (.ref (c 2)), some (.ref (c 1)), some (.int (zI k)), none, none] [] 61 := by
    intro n0
    induction n0 using Nat.strongRecOn with
    | _ n0 ih_61 =>
    intro κ k hm_61 hC hk hF hE
    have loop_92 : ∀ (n0 : Nat) (κ : St) (n : Int), (P 4 (k / pt P) - n).toNat = n0 → (CI P κ) → (k < al P) → (0 ≤ n ∧ n ≤ P 4 (k / pt P)) → (fr [55] κ0 κ) → (∀ q, 0 ≤ q → q < al P → EndS (R2 P bw cw k n q) (eb P bw cw q) (κ 55 q)) → V K sX9_setEnds 0 0 (fm (cO en c κ)) [some (.ref (c 2)), some (.ref (c 1)), some (.int (zI k)), some (.ref (c (35 + 8 * Int.toNat (k / pt P)))), some (.int (zI n))] [] 92 := by
      intro n0
      induction n0 using Nat.strongRecOn with
      | _ n0 ih_92 =>
      intro κ n hm_92 hC hkn hn hF hE
      refine V_iload dX9_setEnds_92 rfl ?_
      have hcs := cell_st hM hk.1 hkn
      have hr4 := hM.r4 (i := k / pt P) ⟨hcs.1, hcs.2.1⟩
      refine V_aload_n dX9_setEnds_94 rfl ?_
      refine VO_callVF (As := []) (b := c (35 + 8 * Int.toNat (k / pt P))) (i := 35 + 8 * Int.toNat (k / pt P)) (ci := 0) (fs := alF en c κ (k / pt P)) (T := TJx4a65c) (N := 3) (at_al ((hC).wn hM (by omega))) rfl hK (k_sizer en c κ (k / pt P) P ⟨hM, hC, by first | assumption | omega | exact ⟨by omega, by omega⟩ | exact ⟨⟨by omega, by omega⟩, by omega, by omega⟩ | exact ⟨⟨by omega, by omega⟩, ⟨by omega, by omega⟩⟩ | exact ⟨⟨by omega, by omega⟩, ⟨by omega, by omega⟩, by omega, by omega⟩⟩) mokJx4a65c_size_8abf5 w321 w270 w271 ⟨Nat.le_of_ble_eq_true rfl, Nat.le_of_ble_eq_true rfl⟩ rfl (Nat.le_of_ble_eq_true rfl) ⟨Nat.le_of_ble_eq_true rfl, Nat.le_of_ble_eq_true rfl⟩ dX9_setEnds_95 (fun v w p_1 => ?_)
      obtain ⟨rfl, rfl⟩ := p_1
      show V K sX9_setEnds 0 0 (fm (cO en c κ)) [some (.ref (c 2)), some (.ref (c 1)), some (.int (zI k)), some (.ref (c (35 + 8 * Int.toNat (k / pt P)))), some (.int (zI n))] [.int (zI (P 4 (k / pt P))), .int (zI n)] 98
      refine V_icmp_ge (tgt := 122) dX9_setEnds_98 (by decide) ⟨⟨by omega, by omega⟩, ⟨by omega, by omega⟩⟩ (fun c_2 => ?_) (fun c_2 => ?_)
      · refine V_iinc (L' := [some (.ref (c 2)), some (.ref (c 1)), some (.int (zI (k + 1))), some (.ref (c (35 + 8 * Int.toNat (k / pt P)))), some (.int (zI n))]) dX9_setEnds_122 (by decide) rfl rfl ?_
        refine V_goto (tgt := 61) dX9_setEnds_125 (by decide) ?_
        refine V_mask (L' := [some (.ref (c 2)), some (.ref (c 1)), some (.int (zI (k + 1))), none, none]) [true, true, true, false, false] rfl ?_
        refine ih_61 _ (by omega) κ (k + 1) rfl ?_ ?_ ?_ ?_
        · exact hC
        · omega
        · exact hF
        · exact fun q a b => (hE q a b).congr (fun x => by rw [show n = P 4 (k / pt P) by omega]; exact R2_next)
      · refine V_aload_n dX9_setEnds_101 rfl ?_
        refine V_aload_n dX9_setEnds_102 rfl ?_
        refine V_iload_n dX9_setEnds_103 rfl ?_
        refine V_aload_n dX9_setEnds_104 rfl ?_
        refine V_iload dX9_setEnds_105 rfl ?_
        refine VO_callVF (As := [.int (zI n)]) (b := c (35 + 8 * Int.toNat (k / pt P))) (i := 35 + 8 * Int.toNat (k / pt P)) (ci := 0) (fs := alF en c κ (k / pt P)) (T := TJx4a65c) (N := 3) (at_al ((hC).wn hM (by omega))) rfl hK (k_getr en c κ (k / pt P) n P ⟨hM, hC, by first | assumption | omega | exact ⟨by omega, by omega⟩ | exact ⟨⟨by omega, by omega⟩, by omega, by omega⟩ | exact ⟨⟨by omega, by omega⟩, ⟨by omega, by omega⟩⟩ | exact ⟨⟨by omega, by omega⟩, ⟨by omega, by omega⟩, by omega, by omega⟩⟩) mokJx4a65c_get_915e3 w326 w274 w275 ⟨Nat.le_of_ble_eq_true rfl, Nat.le_of_ble_eq_true rfl⟩ rfl (Nat.le_of_ble_eq_true rfl) ⟨Nat.le_of_ble_eq_true rfl, Nat.le_of_ble_eq_true rfl⟩ dX9_setEnds_107 (fun v w p_3 => ?_)
        obtain ⟨rfl, rfl⟩ := p_3
        show V K sX9_setEnds 0 0 (fm (cO en c κ)) [some (.ref (c 2)), some (.ref (c 1)), some (.int (zI k)), some (.ref (c (35 + 8 * Int.toNat (k / pt P)))), some (.int (zI n))] [.ref (c (37 + 8 * Int.toNat (k / pt P) + Int.toNat n)), .int (zI k), .ref (c 1), .ref (c 2)] 110
        refine VO_castS (37 + 8 * Int.toNat (k / pt P) + Int.toNat n) (at_rd ((hC).rd hM (by omega) (by omega))) rfl w340 dX9_setEnds_110 ?_
        refine VO_callVF (As := [.ref (c 1), .int (zI k), .ref (c (37 + 8 * Int.toNat (k / pt P) + Int.toNat n))]) (b := c 2) (i := 2) (ci := 8) (fs := wkF c κ) (T := TX9) (N := 10) (at_wk) rfl hK (k_w9_stretchCellRead en c κ k (k / pt P) n P bw cw ⟨hM, hC, ⟨by omega, by omega⟩, rfl, ⟨by omega, by omega⟩, hT.of (hF 51 (by decide)) (hF 52 (by decide)) (hF 53 (by decide)) (hF 57 (by decide)), (congrFun (hF 54 (by decide)) k).trans (hB k hk.1 hkn).1, fun q a b => R2_b a b (hE q a b)⟩) mokX9_stretchCellRead w341 w343 wps0_4 ⟨Nat.le_of_ble_eq_true rfl, Nat.le_of_ble_eq_true rfl⟩ rfl (Nat.le_of_ble_eq_true rfl) ⟨Nat.le_of_ble_eq_true rfl, Nat.le_of_ble_eq_true rfl⟩ dX9_setEnds_113 (fun v w p_4 => ?_)
        obtain ⟨κ_5, rfl, rfl, q_6, q_7, q_8⟩ := p_4
        show V K sX9_setEnds 0 0 (fm (cO en c κ_5)) [some (.ref (c 2)), some (.ref (c 1)), some (.int (zI k)), some (.ref (c (35 + 8 * Int.toNat (k / pt P)))), some (.int (zI n))] [] 116
        refine V_iinc (L' := [some (.ref (c 2)), some (.ref (c 1)), some (.int (zI k)), some (.ref (c (35 + 8 * Int.toNat (k / pt P)))), some (.int (zI (n + 1)))]) dX9_setEnds_116 (by decide) rfl rfl ?_
        refine V_goto (tgt := 92) dX9_setEnds_119 (by decide) ?_
        refine ih_92 _ (by omega) κ_5 (n + 1) rfl ?_ ?_ ?_ ?_ ?_
        · exact q_6
        · omega
        · omega
        · exact ((hF).tr ((q_8).mono (by decide)))
        · exact StrQ.ends hk.1 hkn hn.1 q_7 hE
    have seg_92 : ∀ (κ : St) (n : Int), (CI P κ) → (k < al P) → (0 ≤ n ∧ n ≤ P 4 (k / pt P)) → (fr [55] κ0 κ) → (∀ q, 0 ≤ q → q < al P → EndS (R2 P bw cw k n q) (eb P bw cw q) (κ 55 q)) → V K sX9_setEnds 0 0 (fm (cO en c κ)) [some (.ref (c 2)), some (.ref (c 1)), some (.int (zI k)), some (.ref (c (35 + 8 * Int.toNat (k / pt P)))), some (.int (zI n))] [] 92 := fun κ n hC hkn hn hF hE => loop_92 _ κ n rfl hC hkn hn hF hE
    refine V_iload_n dX9_setEnds_61 rfl ?_
    refine V_aload_n dX9_setEnds_62 rfl ?_
    refine VO_getf (C0 := RX9) (T := TX9) (N := 10) (ci := 8) (fs := wkF c κ) 2 9 iwX9 (by decide) w115 (Or.inl rfl) rfl (at_wk) rfl dX9_setEnds_63 ?_
    refine V_eqT (y := zI (al P)) (congrArg zI ((congrFun (hF 50 (by decide)) 0).trans h50)) ?_
    refine V_icmp_ge (tgt := 128) dX9_setEnds_66 (by decide) ⟨⟨by omega, by omega⟩, ⟨by omega, by omega⟩⟩ (fun c_9 => ?_) (fun c_9 => ?_)
    · refine V_vret hR rfl (Nat.le_of_ble_eq_true rfl) (Nat.le_of_ble_eq_true rfl) dX9_setEnds_128 ?_
      exact ⟨κ, rfl, rfl, hC, fun k2 a b => en_eq ((hE k2 a b).congr (fun x => by rw [show k = al P by omega]; exact R2_end)), by rw [← hκ0]; exact hF⟩
    · refine V_aload_n dX9_setEnds_69 rfl ?_
      refine VO_getN (C0 := RX5) (T := TX5) (N := 4) (ci := 4) (fs := prF c κ) 1 0 iwX5 (by decide) hK wn70 rfl (at_pr) rfl dX9_setEnds_70 ?_
      show V K sX9_setEnds 0 0 (fm (cO en c κ)) [some (.ref (c 2)), some (.ref (c 1)), some (.int (zI k)), none, none] [.ref (c (35 + 8 * Int.toNat 4))] 73
      refine V_aload_n dX9_setEnds_73 rfl ?_
      refine VO_getf (C0 := RX9) (T := TX9) (N := 10) (ci := 8) (fs := wkF c κ) 2 0 iwX9 (by decide) w97 (Or.inl rfl) rfl (at_wk) rfl dX9_setEnds_74 ?_
      refine V_iload_n dX9_setEnds_77 rfl ?_
      refine VO_iald 3 at_wk_number ⟨by omega, by omega⟩ (by decide) dX9_setEnds_78 ?_
      have hcs := cell_st hM hk.1 (show k < al P by omega)
      have hr4 := hM.r4 (i := k / pt P) ⟨hcs.1, hcs.2.1⟩
      refine V_eqT (y := zI (k / pt P)) (congrArg zI ((congrFun (hF 51 (by decide)) k).trans (hT k hk.1 (by omega)).1.1)) ?_
      refine VO_callVF (As := [.int (zI (k / pt P))]) (b := c (35 + 8 * Int.toNat 4)) (i := 35 + 8 * Int.toNat 4) (ci := 0) (fs := alF en c κ 4) (T := TJx4a65c) (N := 3) (at_al (CI.w4 _)) rfl hK (k_get4 en c κ (k / pt P) P ⟨hM, hC, by first | assumption | omega | exact ⟨by omega, by omega⟩ | exact ⟨⟨by omega, by omega⟩, by omega, by omega⟩ | exact ⟨⟨by omega, by omega⟩, ⟨by omega, by omega⟩⟩ | exact ⟨⟨by omega, by omega⟩, ⟨by omega, by omega⟩, by omega, by omega⟩⟩) mokJx4a65c_get_915e3 w326 w274 w275 ⟨Nat.le_of_ble_eq_true rfl, Nat.le_of_ble_eq_true rfl⟩ rfl (Nat.le_of_ble_eq_true rfl) ⟨Nat.le_of_ble_eq_true rfl, Nat.le_of_ble_eq_true rfl⟩ dX9_setEnds_79 (fun v w p_10 => ?_)
      obtain ⟨rfl, rfl⟩ := p_10
      show V K sX9_setEnds 0 0 (fm (cO en c κ)) [some (.ref (c 2)), some (.ref (c 1)), some (.int (zI k)), none, none] [.ref (c (33 + 8 * Int.toNat (k / pt P)))] 82
      refine VO_castS (33 + 8 * Int.toNat (k / pt P)) (at_sm ((hC).sm hM (by omega))) rfl w327 dX9_setEnds_82 ?_
      refine VO_getN (C0 := RX7) (T := TX7) (N := 5) (ci := 6) (fs := smF c κ (k / pt P)) (33 + 8 * Int.toNat (k / pt P)) 1 iwX7 (by decide) hK wn618 rfl (at_sm ((hC).sm hM (by omega))) rfl dX9_setEnds_85 ?_
      refine V_astore_n (L' := [some (.ref (c 2)), some (.ref (c 1)), some (.int (zI k)), some (.ref (c (35 + 8 * Int.toNat (k / pt P)))), none]) dX9_setEnds_88 (by decide) rfl ?_
      refine V_iconst dX9_setEnds_89 ?_
      refine V_istore (L' := [some (.ref (c 2)), some (.ref (c 1)), some (.int (zI k)), some (.ref (c (35 + 8 * Int.toNat (k / pt P)))), some (.int (zI 0))]) dX9_setEnds_90 (by decide) rfl ?_
      refine seg_92 κ 0 ?_ ?_ ?_ ?_ ?_
      · exact hC
      · omega
      · omega
      · exact hF
      · exact hE
  have seg_61 : ∀ (κ : St) (k : Int), (CI P κ) → (0 ≤ k ∧ k ≤ al P) → (fr [55] κ0 κ) → (∀ q, 0 ≤ q → q < al P → EndS (R2 P bw cw k 0 q) (eb P bw cw q) (κ 55 q)) → V K sX9_setEnds 0 0 (fm (cO en c κ)) [some (.ref (c 2)), some (.ref (c 1)), some (.int (zI k)), none, none] [] 61 := fun κ k hC hk hF hE => loop_61 _ κ k rfl hC hk hF hE
  have loop_2 : ∀ (n0 : Nat) (κ : St) (k : Int), (al P - k).toNat = n0 → (CI P κ) → (0 ≤ k ∧ k ≤ al P) → (fr [55] κ0 κ) → (∀ j, 0 ≤ j → j < k → κ 55 j = eb P bw cw j) → V K sX9_setEnds 0 0 (fm (cO en c κ)) [some (.ref (c 2)), some (.ref (c 1)), some (.int (zI k)), none, none] [] 2 := by
    intro n0
    induction n0 using Nat.strongRecOn with
    | _ n0 ih_2 =>
    intro κ k hm_2 hC hk hF hE
    refine V_iload_n dX9_setEnds_2 rfl ?_
    refine V_aload_n dX9_setEnds_3 rfl ?_
    refine VO_getf (C0 := RX9) (T := TX9) (N := 10) (ci := 8) (fs := wkF c κ) 2 9 iwX9 (by decide) w115 (Or.inl rfl) rfl (at_wk) rfl dX9_setEnds_4 ?_
    refine V_eqT (y := zI (al P)) (congrArg zI ((congrFun (hF 50 (by decide)) 0).trans h50)) ?_
    refine V_icmp_ge (tgt := 59) dX9_setEnds_7 (by decide) ⟨⟨by omega, by omega⟩, ⟨by omega, by omega⟩⟩ (fun c_11 => ?_) (fun c_11 => ?_)
    · refine V_iconst dX9_setEnds_59 ?_
      refine V_istore_n (L' := [some (.ref (c 2)), some (.ref (c 1)), some (.int (zI 0)), none, none]) dX9_setEnds_60 (by decide) rfl ?_
      refine seg_61 κ 0 ?_ ?_ ?_ ?_
      · exact hC
      · omega
      · exact hF
      · exact fun q a b => by
          rw [hE q a (by omega)]
          exact EndS.none (fun x => R2_0)
    · refine V_aload_n dX9_setEnds_10 rfl ?_
      refine VO_getN (C0 := RX5) (T := TX5) (N := 4) (ci := 4) (fs := prF c κ) 1 0 iwX5 (by decide) hK wn70 rfl (at_pr) rfl dX9_setEnds_11 ?_
      show V K sX9_setEnds 0 0 (fm (cO en c κ)) [some (.ref (c 2)), some (.ref (c 1)), some (.int (zI k)), none, none] [.ref (c (35 + 8 * Int.toNat 4))] 14
      refine V_aload_n dX9_setEnds_14 rfl ?_
      refine VO_getf (C0 := RX9) (T := TX9) (N := 10) (ci := 8) (fs := wkF c κ) 2 0 iwX9 (by decide) w97 (Or.inl rfl) rfl (at_wk) rfl dX9_setEnds_15 ?_
      refine V_iload_n dX9_setEnds_18 rfl ?_
      refine VO_iald 3 at_wk_number ⟨by omega, by omega⟩ (by decide) dX9_setEnds_19 ?_
      have hcs := cell_st hM hk.1 (show k < al P by omega)
      have h9 := (hM.2.2.2.2.2.1 _ hcs.1 (by omega)).2.2.1
      refine V_eqT (y := zI (k / pt P)) (congrArg zI ((congrFun (hF 51 (by decide)) k).trans (hT k hk.1 (by omega)).1.1)) ?_
      refine VO_callVF (As := [.int (zI (k / pt P))]) (b := c (35 + 8 * Int.toNat 4)) (i := 35 + 8 * Int.toNat 4) (ci := 0) (fs := alF en c κ 4) (T := TJx4a65c) (N := 3) (at_al (CI.w4 _)) rfl hK (k_get4 en c κ (k / pt P) P ⟨hM, hC, by first | assumption | omega | exact ⟨by omega, by omega⟩ | exact ⟨⟨by omega, by omega⟩, by omega, by omega⟩ | exact ⟨⟨by omega, by omega⟩, ⟨by omega, by omega⟩⟩ | exact ⟨⟨by omega, by omega⟩, ⟨by omega, by omega⟩, by omega, by omega⟩⟩) mokJx4a65c_get_915e3 w326 w274 w275 ⟨Nat.le_of_ble_eq_true rfl, Nat.le_of_ble_eq_true rfl⟩ rfl (Nat.le_of_ble_eq_true rfl) ⟨Nat.le_of_ble_eq_true rfl, Nat.le_of_ble_eq_true rfl⟩ dX9_setEnds_20 (fun v w p_12 => ?_)
      obtain ⟨rfl, rfl⟩ := p_12
      show V K sX9_setEnds 0 0 (fm (cO en c κ)) [some (.ref (c 2)), some (.ref (c 1)), some (.int (zI k)), none, none] [.ref (c (33 + 8 * Int.toNat (k / pt P)))] 23
      refine VO_castS (33 + 8 * Int.toNat (k / pt P)) (at_sm ((hC).sm hM (by omega))) rfl w327 dX9_setEnds_23 ?_
      refine VO_getN (C0 := RX7) (T := TX7) (N := 5) (ci := 6) (fs := smF c κ (k / pt P)) (33 + 8 * Int.toNat (k / pt P)) 4 iwX7 (by decide) hK wn629 rfl (at_sm ((hC).sm hM (by omega))) rfl dX9_setEnds_26 ?_
      refine V_eqT (y := zI (P 9 (k / pt P))) (congrArg zI (congrFun ((hC).1 9 (by decide) (by decide)) _)) ?_
      refine V_istore_n (L' := [some (.ref (c 2)), some (.ref (c 1)), some (.int (zI k)), some (.int (zI (P 9 (k / pt P)))), none]) dX9_setEnds_29 (by decide) rfl ?_
      refine V_aload_n dX9_setEnds_30 rfl ?_
      refine VO_getf (C0 := RX9) (T := TX9) (N := 10) (ci := 8) (fs := wkF c κ) 2 4 iwX9 (by decide) w108 (Or.inl rfl) rfl (at_wk) rfl dX9_setEnds_31 ?_
      refine V_iload_n dX9_setEnds_34 rfl ?_
      refine V_iload_n dX9_setEnds_35 rfl ?_
      refine V_if_eq (tgt := 46) dX9_setEnds_36 (by decide) ⟨by omega, by omega⟩ (fun c_13 => ?_) (fun c_13 => ?_)
      · refine V_aload_n dX9_setEnds_46 rfl ?_
        refine VO_getf (C0 := RX9) (T := TX9) (N := 10) (ci := 8) (fs := wkF c κ) 2 3 iwX9 (by decide) w106 (Or.inl rfl) rfl (at_wk) rfl dX9_setEnds_47 ?_
        refine V_iload_n dX9_setEnds_50 rfl ?_
        refine VO_iald 6 at_wk_birth ⟨by omega, by omega⟩ (by decide) dX9_setEnds_51 ?_
        refine V_eqT (y := zI (eb P bw cw k)) (congrArg zI (((congrFun (hF 54 (by decide)) k).trans (hB k hk.1 (by omega)).1).trans (if_pos c_13).symm)) ?_
        refine VO_iast 7 at_wk_end ⟨by omega, by omega⟩ (by decide) dX9_setEnds_52 (st_wk_end k (eb P bw cw k)) ?_
        refine V_iinc (L' := [some (.ref (c 2)), some (.ref (c 1)), some (.int (zI (k + 1))), some (.int (zI (P 9 (k / pt P)))), none]) dX9_setEnds_53 (by decide) rfl rfl ?_
        refine V_goto (tgt := 2) dX9_setEnds_56 (by decide) ?_
        refine V_mask (L' := [some (.ref (c 2)), some (.ref (c 1)), some (.int (zI (k + 1))), none, none]) [true, true, true, false, false] rfl ?_
        refine ih_2 _ (by omega) (up κ 55 k (eb P bw cw k)) (k + 1) rfl ?_ ?_ ?_ ?_
        · exact ((hC).up (by decide))
        · omega
        · exact ((hF).upd (by decide))
        · exact fun j a b => by
            show fup (κ 55) k (eb P bw cw k) j = _
            by_cases e : j = k
            · rw [e, fup_eq]
            · rw [fup_ne e]; exact hE j a (by omega)
      · refine V_aload_n dX9_setEnds_39 rfl ?_
        refine VO_getf (C0 := RX9) (T := TX9) (N := 10) (ci := 8) (fs := wkF c κ) 2 9 iwX9 (by decide) w115 (Or.inl rfl) rfl (at_wk) rfl dX9_setEnds_40 ?_
        refine V_goto (tgt := 52) dX9_setEnds_43 (by decide) ?_
        refine V_eqT (y := zI (eb P bw cw k)) (congrArg zI (((congrFun (hF 50 (by decide)) 0).trans h50).trans (if_neg c_13).symm)) ?_
        refine VO_iast 7 at_wk_end ⟨by omega, by omega⟩ (by decide) dX9_setEnds_52 (st_wk_end k (eb P bw cw k)) ?_
        refine V_iinc (L' := [some (.ref (c 2)), some (.ref (c 1)), some (.int (zI (k + 1))), some (.int (zI (P 9 (k / pt P)))), none]) dX9_setEnds_53 (by decide) rfl rfl ?_
        refine V_goto (tgt := 2) dX9_setEnds_56 (by decide) ?_
        refine V_mask (L' := [some (.ref (c 2)), some (.ref (c 1)), some (.int (zI (k + 1))), none, none]) [true, true, true, false, false] rfl ?_
        refine ih_2 _ (by omega) (up κ 55 k (eb P bw cw k)) (k + 1) rfl ?_ ?_ ?_ ?_
        · exact ((hC).up (by decide))
        · omega
        · exact ((hF).upd (by decide))
        · exact fun j a b => by
            show fup (κ 55) k (eb P bw cw k) j = _
            by_cases e : j = k
            · rw [e, fup_eq]
            · rw [fup_ne e]; exact hE j a (by omega)
  have seg_2 : ∀ (κ : St) (k : Int), (CI P κ) → (0 ≤ k ∧ k ≤ al P) → (fr [55] κ0 κ) → (∀ j, 0 ≤ j → j < k → κ 55 j = eb P bw cw j) → V K sX9_setEnds 0 0 (fm (cO en c κ)) [some (.ref (c 2)), some (.ref (c 1)), some (.int (zI k)), none, none] [] 2 := fun κ k hC hk hF hE => loop_2 _ κ k rfl hC hk hF hE
  refine V_iconst dX9_setEnds_0 ?_
  refine V_istore_n (L' := [some (.ref (c 2)), some (.ref (c 1)), some (.int (zI 0)), none, none]) dX9_setEnds_1 (by decide) rfl ?_
  refine seg_2 κ 0 ?_ ?_ ?_ ?_
  · exact hC
  · omega
  · exact hF
  · exact fun j a b => absurd b (by omega)
set_option maxRecDepth 100000 in
set_option maxHeartbeats 4000000 in
theorem k_w9_arrange (en : Nat → Nat) (c : Nat → Nat) (κ : St) (bw : Int) (cw : Int) (P : St) (hp : MI P ∧ CI P κ ∧ (0 ≤ bw ∧ bw ≤ 9) ∧ (0 ≤ cw ∧ cw ≤ 9)) : MC (EN en) yX9_arrange sX9_arrange [.ref (c 2), .ref (c 1), .int (zI bw), .int (zI cw)] (fm (cO en c κ)) (fun v w => ∃ κ2 : St, v = none ∧ w = fm (cO en c κ2) ∧ (CI P κ2) ∧ (Arr P bw cw κ2) ∧ (fr [50, 51, 52, 53, 54, 55, 56, 57, 58] κ κ2)) := by
  refine MC.of (EN.stb en) [some (.ref (c 2)), some (.ref (c 1)), some (.int (zI bw)), some (.int (zI cw)), none] 1 rfl rfl rfl (by simp [Value.category]) (Nat.le_of_ble_eq_true rfl) (fun K hK hR => ?_)
  obtain ⟨hM, hC, hp⟩ := hp
  have hN4 := hM.2.2.1
  obtain ⟨hb, hw⟩ := hp
  obtain ⟨κ0, hκ0⟩ : ∃ κ0 : St, κ0 = κ := ⟨κ, rfl⟩
  have hF : fr [50, 51, 52, 53, 54, 55, 56, 57, 58] κ0 κ := by rw [hκ0]; exact fr.rf _ _
  have loop_11 : ∀ (n0 : Nat) (κ : St) (s : Int), (P 0 2 - s).toNat = n0 → (CI P κ) → (0 ≤ s ∧ s ≤ P 0 2) → (fr [50, 51, 52, 53, 54, 55, 56, 57, 58] κ0 κ) → (κ 50 0 = al P) → (TP P bw cw (s * pt P) κ) → V K sX9_arrange 0 0 (fm (cO en c κ)) [some (.ref (c 2)), some (.ref (c 1)), some (.int (zI bw)), some (.int (zI cw)), some (.int (zI s))] [] 11 := by
    intro n0
    induction n0 using Nat.strongRecOn with
    | _ n0 ih_11 =>
    intro κ s hm_11 hC hs hF h50 hT
    refine V_iload dX9_arrange_11 rfl ?_
    refine V_aload_n dX9_arrange_13 rfl ?_
    refine VO_getN (C0 := RX5) (T := TX5) (N := 4) (ci := 4) (fs := prF c κ) 1 0 iwX5 (by decide) hK wn70 rfl (at_pr) rfl dX9_arrange_14 ?_
    show V K sX9_arrange 0 0 (fm (cO en c κ)) [some (.ref (c 2)), some (.ref (c 1)), some (.int (zI bw)), some (.int (zI cw)), some (.int (zI s))] [.ref (c (35 + 8 * Int.toNat 4)), .int (zI s)] 17
    refine VO_callVF (As := []) (b := c (35 + 8 * Int.toNat 4)) (i := 35 + 8 * Int.toNat 4) (ci := 0) (fs := alF en c κ 4) (T := TJx4a65c) (N := 3) (at_al (CI.w4 _)) rfl hK (k_size4 en c κ P ⟨hM, hC⟩) mokJx4a65c_size_8abf5 w321 w270 w271 ⟨Nat.le_of_ble_eq_true rfl, Nat.le_of_ble_eq_true rfl⟩ rfl (Nat.le_of_ble_eq_true rfl) ⟨Nat.le_of_ble_eq_true rfl, Nat.le_of_ble_eq_true rfl⟩ dX9_arrange_17 (fun v w p_1 => ?_)
    obtain ⟨rfl, rfl⟩ := p_1
    show V K sX9_arrange 0 0 (fm (cO en c κ)) [some (.ref (c 2)), some (.ref (c 1)), some (.int (zI bw)), some (.int (zI cw)), some (.int (zI s))] [.int (zI (P 0 2)), .int (zI s)] 20
    refine V_icmp_ge (tgt := 38) dX9_arrange_20 (by decide) ⟨⟨by omega, by omega⟩, ⟨by omega, by omega⟩⟩ (fun c_2 => ?_) (fun c_2 => ?_)
    · have hTa : TP P bw cw (al P) κ := by
        have e : s = P 0 2 := by omega
        rw [e] at hT; exact hT
      refine V_aload_n dX9_arrange_38 rfl ?_
      refine VO_callVF (As := []) (b := c 2) (i := 2) (ci := 8) (fs := wkF c κ) (T := TX9) (N := 10) (at_wk) rfl hK (k_w9_setSteps en c κ P bw cw ⟨hM, hC, hb, hw, h50, hTa⟩) mokX9_setSteps w329 w331 wps0_2 ⟨Nat.le_of_ble_eq_true rfl, Nat.le_of_ble_eq_true rfl⟩ rfl (Nat.le_of_ble_eq_true rfl) ⟨Nat.le_of_ble_eq_true rfl, Nat.le_of_ble_eq_true rfl⟩ dX9_arrange_39 (fun v w p_3 => ?_)
      obtain ⟨κ_4, rfl, rfl, q_5, q_6, q_7⟩ := p_3
      show V K sX9_arrange 0 0 (fm (cO en c κ_4)) [some (.ref (c 2)), some (.ref (c 1)), some (.int (zI bw)), some (.int (zI cw)), some (.int (zI s))] [] 42
      refine V_aload_n dX9_arrange_42 rfl ?_
      refine V_aload_n dX9_arrange_43 rfl ?_
      refine VO_callVF (As := [.ref (c 1)]) (b := c 2) (i := 2) (ci := 8) (fs := wkF c κ_4) (T := TX9) (N := 10) (at_wk) rfl hK (k_w9_setEnds en c κ_4 P bw cw ⟨hM, q_5, (congrFun (q_7 50 (by decide)) 0).trans h50, hTa.of (q_7 51 (by decide)) (q_7 52 (by decide)) (q_7 53 (by decide)) (q_7 57 (by decide)), q_6⟩) mokX9_setEnds w336 w338 wps0_3 ⟨Nat.le_of_ble_eq_true rfl, Nat.le_of_ble_eq_true rfl⟩ rfl (Nat.le_of_ble_eq_true rfl) ⟨Nat.le_of_ble_eq_true rfl, Nat.le_of_ble_eq_true rfl⟩ dX9_arrange_44 (fun v w p_8 => ?_)
      obtain ⟨κ_9, rfl, rfl, q_10, q_11, q_12⟩ := p_8
      show V K sX9_arrange 0 0 (fm (cO en c κ_9)) [some (.ref (c 2)), some (.ref (c 1)), some (.int (zI bw)), some (.int (zI cw)), some (.int (zI s))] [] 47
      refine V_vret hR rfl (Nat.le_of_ble_eq_true rfl) (Nat.le_of_ble_eq_true rfl) dX9_arrange_47 ?_
      exact ⟨_, rfl, rfl, q_10, Arr.mk' ((congrFun (q_12 50 (by decide)) 0).trans ((congrFun (q_7 50 (by decide)) 0).trans h50)) ((hTa.of (q_7 51 (by decide)) (q_7 52 (by decide)) (q_7 53 (by decide)) (q_7 57 (by decide))).of (q_12 51 (by decide)) (q_12 52 (by decide)) (q_12 53 (by decide)) (q_12 57 (by decide))) (BA.of q_6 (q_12 54 (by decide)) (q_12 56 (by decide))) q_11, by rw [← hκ0]; exact ((((hF).tr ((q_7).mono (by decide)))).tr ((q_12).mono (by decide)))⟩
    · refine V_aload_n dX9_arrange_23 rfl ?_
      refine V_aload_n dX9_arrange_24 rfl ?_
      refine V_iload dX9_arrange_25 rfl ?_
      refine V_iload_n dX9_arrange_27 rfl ?_
      refine V_iload_n dX9_arrange_28 rfl ?_
      refine VO_callVF (As := [.ref (c 1), .int (zI s), .int (zI bw), .int (zI cw)]) (b := c 2) (i := 2) (ci := 8) (fs := wkF c κ) (T := TX9) (N := 10) (at_wk) rfl hK (k_w9_setTimes en c κ s bw cw P ⟨hM, hC, ⟨by omega, by omega⟩, hT⟩) mokX9_setTimes w322 w324 wps0_1 ⟨Nat.le_of_ble_eq_true rfl, Nat.le_of_ble_eq_true rfl⟩ rfl (Nat.le_of_ble_eq_true rfl) ⟨Nat.le_of_ble_eq_true rfl, Nat.le_of_ble_eq_true rfl⟩ dX9_arrange_29 (fun v w p_13 => ?_)
      obtain ⟨κ_14, rfl, rfl, q_15, q_16, q_17⟩ := p_13
      show V K sX9_arrange 0 0 (fm (cO en c κ_14)) [some (.ref (c 2)), some (.ref (c 1)), some (.int (zI bw)), some (.int (zI cw)), some (.int (zI s))] [] 32
      refine V_iinc (L' := [some (.ref (c 2)), some (.ref (c 1)), some (.int (zI bw)), some (.int (zI cw)), some (.int (zI (s + 1)))]) dX9_arrange_32 (by decide) rfl rfl ?_
      refine V_goto (tgt := 11) dX9_arrange_35 (by decide) ?_
      refine ih_11 _ (by omega) κ_14 (s + 1) rfl ?_ ?_ ?_ ?_ ?_
      · exact q_15
      · omega
      · exact ((hF).tr ((q_17).mono (by decide)))
      · exact (congrFun (q_17 50 (by decide)) 0).trans h50
      · exact q_16
  have seg_11 : ∀ (κ : St) (s : Int), (CI P κ) → (0 ≤ s ∧ s ≤ P 0 2) → (fr [50, 51, 52, 53, 54, 55, 56, 57, 58] κ0 κ) → (κ 50 0 = al P) → (TP P bw cw (s * pt P) κ) → V K sX9_arrange 0 0 (fm (cO en c κ)) [some (.ref (c 2)), some (.ref (c 1)), some (.int (zI bw)), some (.int (zI cw)), some (.int (zI s))] [] 11 := fun κ s hC hs hF h50 hT => loop_11 _ κ s rfl hC hs hF h50 hT
  refine V_aload_n dX9_arrange_0 rfl ?_
  refine V_aload_n dX9_arrange_1 rfl ?_
  refine VO_callVF (As := []) (b := c 1) (i := 1) (ci := 4) (fs := prF c κ) (T := TX5) (N := 4) (at_pr) rfl hK (k_w5_cells en c κ P ⟨hM, hC⟩) mokX5_cells w320 w301 w302 ⟨Nat.le_of_ble_eq_true rfl, Nat.le_of_ble_eq_true rfl⟩ rfl (Nat.le_of_ble_eq_true rfl) ⟨Nat.le_of_ble_eq_true rfl, Nat.le_of_ble_eq_true rfl⟩ dX9_arrange_2 (fun v w p_18 => ?_)
  obtain ⟨rfl, rfl⟩ := p_18
  show V K sX9_arrange 0 0 (fm (cO en c κ)) [some (.ref (c 2)), some (.ref (c 1)), some (.int (zI bw)), some (.int (zI cw)), none] [.int (zI (al P)), .ref (c 2)] 5
  refine VO_putf (C0 := RX9) (T := TX9) (N := 10) (ci := 8) (fs := wkF c κ) 2 9 iwX9 (by decide) w115 (Or.inl rfl) tyX9 tyX9_ok nmX9 rfl rfl (at_wk) (Nat.le_of_ble_eq_true rfl) rfl rfl dX9_arrange_5 (st_wk_cells (al P)) ?_
  refine V_iconst dX9_arrange_8 ?_
  refine V_istore (L' := [some (.ref (c 2)), some (.ref (c 1)), some (.int (zI bw)), some (.int (zI cw)), some (.int (zI 0))]) dX9_arrange_9 (by decide) rfl ?_
  refine seg_11 (up κ 50 0 (al P)) 0 ?_ ?_ ?_ ?_ ?_
  · exact ((hC).up (by decide))
  · omega
  · exact ((hF).upd (by decide))
  · exact rfl
  · exact fun k a b => absurd b (by rw [Int.zero_mul]; omega)

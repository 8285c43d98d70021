/-! the law: its numbers of a cell, the steps, the reads, the ends -/
noncomputable def wnt (P : St) (k r : Int) : Int := @ite Int (inP P (k % pt P) r) (Classical.propDecidable _) (rdc P (k % pt P) r) (-1)
theorem wnt_yes {P : St} {k r : Int} (h : inP P (k % pt P) r) : wnt P k r = rdc P (k % pt P) r := by unfold wnt; rw [if_pos h]
theorem wnt_no {P : St} {k r : Int} (h : ¬ inP P (k % pt P) r) : -1 = wnt P k r := by unfold wnt; rw [if_neg h]
theorem rdc_b {P : St} (hM : MI P) {p r : Int} (hB : RB P r) (h : inP P p r) : (0 ≤ rdc P p r ∧ rdc P p r < al P) ∧ rdc P p r / pt P = P 5 r ∧ rdc P p r % pt P = rdp P p r := by
  obtain ⟨a1, a2, -, -⟩ := rdp_b hM (i := wi P p r) (j := wj P p r) h
  obtain ⟨b1, b2, b3, -⟩ := comp_eq hM hB.1.1 hB.1.2 a1 a2
  exact ⟨b1, b2, b3⟩
theorem wnt_k {P : St} (hM : MI P) {k r : Int} (hk : 0 ≤ k) (hkn : k < al P) (hB : RB P r) : (wnt P k r < 0 → ¬ inP P (k % pt P) r) ∧ (0 ≤ wnt P k r → inP P (k % pt P) r ∧ ((0 ≤ wnt P k r ∧ wnt P k r < al P) ∧ wnt P k r = rdc P (k % pt P) r)) := by
  by_cases h : inP P (k % pt P) r
  · have := rdc_b hM hB h
    rw [wnt_yes h]
    exact ⟨fun z => absurd this.1.1 (by omega), fun _ => ⟨h, this.1, rfl⟩⟩
  · rw [← wnt_no h]
    exact ⟨fun _ => h, fun z => absurd z (by decide)⟩
theorem wnt_lo {P : St} (hM : MI P) {k r : Int} (hk : 0 ≤ k) (hkn : k < al P) (hB : RB P r) : -1 ≤ wnt P k r ∧ wnt P k r < al P := by
  by_cases h : inP P (k % pt P) r
  · have := rdc_b hM hB h
    rw [wnt_yes h]; omega
  · have := hM.als
    rw [← wnt_no h]; omega
theorem wnt_b {P : St} (hM : MI P) {s p r : Int} (hs : 0 ≤ s) (hsn : s < P 0 2) (hp : 0 ≤ p) (hpn : p < pt P) (hB : RB P r) : (wnt P (s * pt P + p) r < 0 → ¬ inP P p r) ∧ (0 ≤ wnt P (s * pt P + p) r → inP P p r ∧ wnt P (s * pt P + p) r = rdc P p r ∧ (0 ≤ wnt P (s * pt P + p) r ∧ wnt P (s * pt P + p) r < al P)) := by
  obtain ⟨a, b, c, -⟩ := comp_eq hM hs hsn hp hpn
  have h := wnt_k hM a.1 a.2 hB
  rw [c] at h
  exact ⟨h.1, fun z => ⟨(h.2 z).1, (h.2 z).2.2, (h.2 z).2.1⟩⟩
theorem eb_bt {P : St} {bw cw k : Int} (hk : 0 ≤ k) (hkn : k < al P) : bt P bw cw k ≤ eb P bw cw k := by
  have := bt_b (P := P) (bw := bw) (cw := cw) hk hkn
  unfold eb
  split <;> omega
set_option maxRecDepth 100000 in
set_option maxHeartbeats 4000000 in
theorem q_points {E : EV} (hE : Stb E) (b : Nat → Nat) (τ : St) (X : vWd) (P : St) (hp : MI P ∧ LR P τ) : MC E yL_points sL_points [.ref (b 0)] (lW b τ X) (fun v w => v = some (.int (zI (pt P))) ∧ w = (lW b τ X)) := by
  refine MC.of hE [some (.ref (b 0))] 0 rfl rfl rfl (by simp [Value.category]) (Nat.le_of_ble_eq_true rfl) (fun K hK hR => ?_)
  obtain ⟨hM, hL⟩ := hp
  have mR := hM.1
  have mC := hM.2.1
  have mN := hM.2.2.1
  have mp := hM.pts
  have ma := hM.als
  have mV := hM.2.2.2.1
  have mW := hM.2.2.2.2.1
  refine V_aload_n dL_points_0 rfl ?_
  refine V_iconst dL_points_1 ?_
  refine ll_0 ⟨by omega, by omega⟩ dL_points_2 ?_
  refine V_eqT (y := zI (P 0 0)) (congrArg zI (LR.g0 hL)) ?_
  refine V_aload_n dL_points_3 rfl ?_
  refine V_iconst dL_points_4 ?_
  refine ll_0 ⟨by omega, by omega⟩ dL_points_5 ?_
  refine V_eqT (y := zI (P 0 1)) (congrArg zI (LR.g1 hL)) ?_
  refine V_imul dL_points_6 ?_
  refine V_iret hR rfl (Nat.le_of_ble_eq_true rfl) (Nat.le_of_ble_eq_true rfl) dL_points_7 ?_
  exact ⟨rfl, rfl⟩
set_option maxRecDepth 100000 in
set_option maxHeartbeats 4000000 in
theorem q_time {E : EV} (hE : Stb E) (b : Nat → Nat) (τ : St) (X : vWd) (cell : Int) (P : St) (hp : MI P ∧ LR P τ ∧ 0 ≤ cell ∧ cell < al P) : MC E yL_time sL_time [.ref (b 0), .ref (b 1), .int (zI cell)] (lW b τ X) (fun v w => v = some (.int (zI (tm P (P 0 11) (P 0 12) cell))) ∧ w = (lW b τ X)) := by
  refine MC.of hE [some (.ref (b 0)), some (.ref (b 1)), some (.int (zI cell)), none] 1 rfl rfl rfl (by simp [Value.category]) (Nat.le_of_ble_eq_true rfl) (fun K hK hR => ?_)
  obtain ⟨hM, hL, hp⟩ := hp
  have mR := hM.1
  have mC := hM.2.1
  have mN := hM.2.2.1
  have mp := hM.pts
  have ma := hM.als
  have mV := hM.2.2.2.1
  have mW := hM.2.2.2.2.1
  have hc := cell_st hM hp.1 hp.2
  have hr := place_rc hM hc.2.2.1 hc.2.2.2.1
  have ha := (hL.at hc.1 (by omega)).2.2.2.1
  have hi := cid_b hM hp.1 hp.2
  refine V_iload_n dL_time_0 rfl ?_
  refine V_aload_n dL_time_1 rfl ?_
  refine V_callSF (As := [.ref (b 0)]) hK (q_points hE b τ X P ⟨hM, hL⟩) mokL_points w871 w872 ⟨Nat.le_of_ble_eq_true rfl, Nat.le_of_ble_eq_true rfl⟩ rfl (Nat.le_of_ble_eq_true rfl) ⟨Nat.le_of_ble_eq_true rfl, Nat.le_of_ble_eq_true rfl⟩ dL_time_2 (fun v w p_1 => ?_)
  obtain ⟨rfl, rfl⟩ := p_1
  show V K sL_time 0 0 (lW b τ X) _ [.int (zI (pt P)), .int (zI cell)] 5
  refine V_iremN dL_time_5 ⟨⟨by omega, by omega⟩, ⟨by omega, by omega⟩, by omega, by omega⟩ ?_
  refine V_istore_n (L' := [some (.ref (b 0)), some (.ref (b 1)), some (.int (zI cell)), some (.int (zI (cell % (pt P))))]) dL_time_6 (by decide) rfl ?_
  refine V_iload_n dL_time_7 rfl ?_
  refine V_aload_n dL_time_8 rfl ?_
  refine V_iconst dL_time_9 ?_
  refine ll_0 ⟨by omega, by omega⟩ dL_time_10 ?_
  refine V_eqT (y := zI (P 0 1)) (congrArg zI (LR.g1 hL)) ?_
  refine V_idiv dL_time_11 ⟨⟨by omega, by omega⟩, ⟨by omega, by omega⟩, by omega, by omega⟩ ?_
  refine V_aload_n dL_time_12 rfl ?_
  refine V_iconst dL_time_13 ?_
  refine ll_0 ⟨by omega, by omega⟩ dL_time_14 ?_
  refine V_eqT (y := zI (P 0 11)) (congrArg zI (LR.g3 hL)) ?_
  refine V_imul dL_time_15 ?_
  refine V_iload_n dL_time_16 rfl ?_
  refine V_aload_n dL_time_17 rfl ?_
  refine V_iconst dL_time_18 ?_
  refine ll_0 ⟨by omega, by omega⟩ dL_time_19 ?_
  refine V_eqT (y := zI (P 0 1)) (congrArg zI (LR.g1 hL)) ?_
  refine V_iremN dL_time_20 ⟨⟨by omega, by omega⟩, ⟨by omega, by omega⟩, by omega, by omega⟩ ?_
  refine V_aload_n dL_time_21 rfl ?_
  refine V_iconst dL_time_22 ?_
  refine ll_0 ⟨by omega, by omega⟩ dL_time_23 ?_
  refine V_eqT (y := zI (P 0 12)) (congrArg zI (LR.g4 hL)) ?_
  refine V_imul dL_time_24 ?_
  refine V_iadd dL_time_25 ?_
  refine V_aload_n dL_time_26 rfl ?_
  refine V_bipush dL_time_27 (by decide) ?_
  refine V_iload_n dL_time_29 rfl ?_
  refine V_aload_n dL_time_30 rfl ?_
  refine V_callSF (As := [.ref (b 0)]) hK (q_points hE b τ X P ⟨hM, hL⟩) mokL_points w871 w872 ⟨Nat.le_of_ble_eq_true rfl, Nat.le_of_ble_eq_true rfl⟩ rfl (Nat.le_of_ble_eq_true rfl) ⟨Nat.le_of_ble_eq_true rfl, Nat.le_of_ble_eq_true rfl⟩ dL_time_31 (fun v w p_2 => ?_)
  obtain ⟨rfl, rfl⟩ := p_2
  show V K sL_time 0 0 (lW b τ X) _ [.int (zI (pt P)), .int (zI cell), .int (zI 12), .ref (b 1), .int (zI ((((cell % (pt P)) / (P 0 1)) * (P 0 11)) + (((cell % (pt P)) % (P 0 1)) * (P 0 12))))] 34
  refine V_idiv dL_time_34 ⟨⟨by omega, by omega⟩, ⟨by omega, by omega⟩, by omega, by omega⟩ ?_
  refine V_iadd dL_time_35 ?_
  refine ll_1 ⟨by omega, by omega⟩ dL_time_36 ?_
  refine V_eqT (y := zI (P 10 (cell / pt P))) (congrArg zI ha) ?_
  refine V_iadd dL_time_37 ?_
  refine V_iret hR rfl (Nat.le_of_ble_eq_true rfl) (Nat.le_of_ble_eq_true rfl) dL_time_38 ?_
  exact ⟨ziE (by unfold tm tmc; rw [hi.2.1, hi.2.2]), rfl⟩
set_option maxRecDepth 100000 in
set_option maxHeartbeats 4000000 in
theorem q_steps {E : EV} (hE : Stb E) (b : Nat → Nat) (τ : St) (X : vWd) (P : St) (hp : MI P ∧ LR P τ) : MC E yL_steps sL_steps [.ref (b 0), .ref (b 1), .ref (b 3)] (lW b τ X) (fun v w => ∃ (τ2 : St), v = none ∧ w = (lW b τ2 X) ∧ (fr [3] τ τ2) ∧ (LT P τ2)) := by
  refine MC.of hE [some (.ref (b 0)), some (.ref (b 1)), some (.ref (b 3)), none, none, none, none] 4 rfl rfl rfl (by simp [Value.category]) (Nat.le_of_ble_eq_true rfl) (fun K hK hR => ?_)
  obtain ⟨hM, hL⟩ := hp
  have mR := hM.1
  have mC := hM.2.1
  have mN := hM.2.2.1
  have mp := hM.pts
  have ma := hM.als
  have mV := hM.2.2.2.1
  have mW := hM.2.2.2.2.1
  have hsm := hL.small hM
  have loop_12 : ∀ (n0 : Nat) (k : Int) (τ1 : St), (al P - k).toNat = n0 → (0 ≤ k ∧ k ≤ al P) → (fr [3] τ τ1) → (∀ j, 0 ≤ j → j < k → τ1 3 j = bt P (P 0 11) (P 0 12) j) → V K sL_steps 0 0 (lW b τ1 X) [some (.ref (b 0)), some (.ref (b 1)), some (.ref (b 3)), some (.int (zI (al P))), some (.int (zI k)), none, none] [] 12 := by
    intro n0
    induction n0 using Nat.strongRecOn with
    | _ n0 ih_12 =>
    intro k τ1 hm_12 hk hf hz
    have loop_26 : ∀ (n0 : Nat) (j : Int) (τ3 : St), (al P - j).toNat = n0 → (k < al P) → (0 ≤ j ∧ j ≤ al P) → (fr [3] τ τ3) → (∀ j, 0 ≤ j → j < k → τ3 3 j = bt P (P 0 11) (P 0 12) j) → (τ3 3 k = ct (fun i => lx (tm P (P 0 11) (P 0 12)) i k) j) → V K sL_steps 0 0 (lW b τ3 X) [some (.ref (b 0)), some (.ref (b 1)), some (.ref (b 3)), some (.int (zI (al P))), some (.int (zI k)), some (.int (zI j)), none] [] 26 := by
      intro n0
      induction n0 using Nat.strongRecOn with
      | _ n0 ih_26 =>
      intro j τ3 hm_26 hkn hj hf3 hz3 h3
      have seg_76 : ∀ (bb : Bool), (j < al P) → (bb = lx (tm P (P 0 11) (P 0 12)) j k) → V K sL_steps 0 0 (lW b τ3 X) [some (.ref (b 0)), some (.ref (b 1)), some (.ref (b 3)), some (.int (zI (al P))), some (.int (zI k)), some (.int (zI j)), none] [.int (zI (bz bb)), .int (zI (ct (fun i => lx (tm P (P 0 11) (P 0 12)) i k) j)), .int (zI k), .ref (b 3)] 76 := by
        intro bb hjn hb
        refine V_iadd dL_steps_76 ?_
        refine ls_3 ⟨by omega, by omega⟩ dL_steps_77 ?_
        refine V_iinc (L' := [some (.ref (b 0)), some (.ref (b 1)), some (.ref (b 3)), some (.int (zI (al P))), some (.int (zI k)), some (.int (zI (j + 1))), none]) dL_steps_78 (by decide) rfl rfl ?_
        refine V_goto (tgt := 26) dL_steps_81 (by decide) ?_
        refine ih_26 _ (by omega) (j + 1) (up τ3 3 k ((ct (fun i => lx (tm P (P 0 11) (P 0 12)) i k) j) + (bz bb))) rfl ?_ ?_ ?_ ?_ ?_
        · omega
        · omega
        · exact hf3.upd (by decide)
        · intro i a b2
          rw [up_eq, fup_ne (by omega)]; exact hz3 i a b2
        · rw [up_eq, fup_eq, ct_s _ hj.1, hb]
      refine V_iload dL_steps_26 rfl ?_
      refine V_iload_n dL_steps_28 rfl ?_
      refine V_icmp_ge (tgt := 84) dL_steps_29 (by decide) ⟨⟨by omega, by omega⟩, ⟨by omega, by omega⟩⟩ (fun c_1 => ?_) (fun c_1 => ?_)
      · refine V_iinc (L' := [some (.ref (b 0)), some (.ref (b 1)), some (.ref (b 3)), some (.int (zI (al P))), some (.int (zI (k + 1))), some (.int (zI j)), none]) dL_steps_84 (by decide) rfl rfl ?_
        refine V_goto (tgt := 12) dL_steps_87 (by decide) ?_
        refine V_mask (L' := [some (.ref (b 0)), some (.ref (b 1)), some (.ref (b 3)), some (.int (zI (al P))), some (.int (zI (k + 1))), none, none]) [true, true, true, true, true, false, false] rfl ?_
        refine ih_12 _ (by omega) (k + 1) τ3 rfl ?_ ?_ ?_
        · omega
        · exact hf3
        · intro i a b2
          by_cases e : i = k
          · rw [e, h3, show j = al P by omega]; rfl
          · exact hz3 i a (by omega)
      · have kj := tm_b hM mV mW hj.1 (show j < al P by omega)
        have kk := tm_b hM mV mW hk.1 hkn
        have kc := ct_b (fun i => lx (tm P (P 0 11) (P 0 12)) i k) j hj.1
        refine V_aload_n dL_steps_32 rfl ?_
        refine V_aload_n dL_steps_33 rfl ?_
        refine V_iload dL_steps_34 rfl ?_
        refine V_callSF (As := [.ref (b 0), .ref (b 1), .int (zI j)]) hK (q_time hE b τ3 X j P ⟨hM, (hL.fr hf3 (by decide)), ⟨hj.1, by omega⟩⟩) mokL_time w874 w875 ⟨Nat.le_of_ble_eq_true rfl, Nat.le_of_ble_eq_true rfl⟩ rfl (Nat.le_of_ble_eq_true rfl) ⟨Nat.le_of_ble_eq_true rfl, Nat.le_of_ble_eq_true rfl⟩ dL_steps_36 (fun v w p_2 => ?_)
        obtain ⟨rfl, rfl⟩ := p_2
        show V K sL_steps 0 0 (lW b τ3 X) _ [.int (zI (tm P (P 0 11) (P 0 12) j))] 39
        refine V_aload_n dL_steps_39 rfl ?_
        refine V_aload_n dL_steps_40 rfl ?_
        refine V_iload dL_steps_41 rfl ?_
        refine V_callSF (As := [.ref (b 0), .ref (b 1), .int (zI k)]) hK (q_time hE b τ3 X k P ⟨hM, (hL.fr hf3 (by decide)), ⟨hk.1, hkn⟩⟩) mokL_time w874 w875 ⟨Nat.le_of_ble_eq_true rfl, Nat.le_of_ble_eq_true rfl⟩ rfl (Nat.le_of_ble_eq_true rfl) ⟨Nat.le_of_ble_eq_true rfl, Nat.le_of_ble_eq_true rfl⟩ dL_steps_43 (fun v w p_3 => ?_)
        obtain ⟨rfl, rfl⟩ := p_3
        show V K sL_steps 0 0 (lW b τ3 X) _ [.int (zI (tm P (P 0 11) (P 0 12) k)), .int (zI (tm P (P 0 11) (P 0 12) j))] 46
        refine V_isub dL_steps_46 ?_
        refine V_istore (L' := [some (.ref (b 0)), some (.ref (b 1)), some (.ref (b 3)), some (.int (zI (al P))), some (.int (zI k)), some (.int (zI j)), some (.int (zI ((tm P (P 0 11) (P 0 12) j) - (tm P (P 0 11) (P 0 12) k))))]) dL_steps_47 (by decide) rfl ?_
        refine V_aload_n dL_steps_49 rfl ?_
        refine V_iload dL_steps_50 rfl ?_
        refine V_dup2 dL_steps_52 rfl rfl ?_
        refine ll_3 ⟨by omega, by omega⟩ dL_steps_53 ?_
        refine V_eqT (y := zI (ct (fun i => lx (tm P (P 0 11) (P 0 12)) i k) j)) (congrArg zI h3) ?_
        refine V_iload dL_steps_54 rfl ?_
        refine V_if_lt (tgt := 71) dL_steps_56 (by decide) ⟨by omega, by omega⟩ (fun c_4 => ?_) (fun c_4 => ?_)
        · refine V_iconst dL_steps_71 ?_
          refine V_goto (tgt := 76) dL_steps_72 (by decide) ?_
          refine V_mask (L' := [some (.ref (b 0)), some (.ref (b 1)), some (.ref (b 3)), some (.int (zI (al P))), some (.int (zI k)), some (.int (zI j)), none]) [true, true, true, true, true, true, false] rfl ?_
          refine seg_76 true ?_ ?_
          · omega
          · simp only [lx]; exact (decide_eq_true (by omega)).symm
        · refine V_iload dL_steps_59 rfl ?_
          refine V_if_ne (tgt := 75) dL_steps_61 (by decide) ⟨by omega, by omega⟩ (fun c_5 => ?_) (fun c_5 => ?_)
          · refine V_iconst dL_steps_75 ?_
            refine V_mask (L' := [some (.ref (b 0)), some (.ref (b 1)), some (.ref (b 3)), some (.int (zI (al P))), some (.int (zI k)), some (.int (zI j)), none]) [true, true, true, true, true, true, false] rfl ?_
            refine seg_76 false ?_ ?_
            · omega
            · simp only [lx]; exact (decide_eq_false (by omega)).symm
          · refine V_iload dL_steps_64 rfl ?_
            refine V_iload dL_steps_66 rfl ?_
            refine V_icmp_ge (tgt := 75) dL_steps_68 (by decide) ⟨⟨by omega, by omega⟩, ⟨by omega, by omega⟩⟩ (fun c_6 => ?_) (fun c_6 => ?_)
            · refine V_iconst dL_steps_75 ?_
              refine V_mask (L' := [some (.ref (b 0)), some (.ref (b 1)), some (.ref (b 3)), some (.int (zI (al P))), some (.int (zI k)), some (.int (zI j)), none]) [true, true, true, true, true, true, false] rfl ?_
              refine seg_76 false ?_ ?_
              · omega
              · simp only [lx]; exact (decide_eq_false (by omega)).symm
            · refine V_iconst dL_steps_71 ?_
              refine V_goto (tgt := 76) dL_steps_72 (by decide) ?_
              refine V_mask (L' := [some (.ref (b 0)), some (.ref (b 1)), some (.ref (b 3)), some (.int (zI (al P))), some (.int (zI k)), some (.int (zI j)), none]) [true, true, true, true, true, true, false] rfl ?_
              refine seg_76 true ?_ ?_
              · omega
              · simp only [lx]; exact (decide_eq_true (by omega)).symm
    have seg_26 : ∀ (j : Int) (τ3 : St), (k < al P) → (0 ≤ j ∧ j ≤ al P) → (fr [3] τ τ3) → (∀ j, 0 ≤ j → j < k → τ3 3 j = bt P (P 0 11) (P 0 12) j) → (τ3 3 k = ct (fun i => lx (tm P (P 0 11) (P 0 12)) i k) j) → V K sL_steps 0 0 (lW b τ3 X) [some (.ref (b 0)), some (.ref (b 1)), some (.ref (b 3)), some (.int (zI (al P))), some (.int (zI k)), some (.int (zI j)), none] [] 26 := fun j τ3 hkn hj hf3 hz3 h3 => loop_26 _ j τ3 rfl hkn hj hf3 hz3 h3
    refine V_iload dL_steps_12 rfl ?_
    refine V_iload_n dL_steps_14 rfl ?_
    refine V_icmp_ge (tgt := 90) dL_steps_15 (by decide) ⟨⟨by omega, by omega⟩, ⟨by omega, by omega⟩⟩ (fun c_7 => ?_) (fun c_7 => ?_)
    · refine V_vret hR rfl (Nat.le_of_ble_eq_true rfl) (Nat.le_of_ble_eq_true rfl) dL_steps_90 ?_
      exact ⟨τ1, rfl, rfl, hf, fun j a b => hz j a (by omega)⟩
    · refine V_aload_n dL_steps_18 rfl ?_
      refine V_iload dL_steps_19 rfl ?_
      refine V_iconst dL_steps_21 ?_
      refine ls_3 ⟨by omega, by omega⟩ dL_steps_22 ?_
      refine V_iconst dL_steps_23 ?_
      refine V_istore (L' := [some (.ref (b 0)), some (.ref (b 1)), some (.ref (b 3)), some (.int (zI (al P))), some (.int (zI k)), some (.int (zI 0)), none]) dL_steps_24 (by decide) rfl ?_
      refine seg_26 0 (up τ1 3 k 0) ?_ ?_ ?_ ?_ ?_
      · omega
      · omega
      · exact hf.upd (by decide)
      · intro j a b
        rw [up_eq, fup_ne (by omega)]; exact hz j a b
      · rw [up_eq, fup_eq, ct_0 _ (by omega)]
  have seg_12 : ∀ (k : Int) (τ1 : St), (0 ≤ k ∧ k ≤ al P) → (fr [3] τ τ1) → (∀ j, 0 ≤ j → j < k → τ1 3 j = bt P (P 0 11) (P 0 12) j) → V K sL_steps 0 0 (lW b τ1 X) [some (.ref (b 0)), some (.ref (b 1)), some (.ref (b 3)), some (.int (zI (al P))), some (.int (zI k)), none, none] [] 12 := fun k τ1 hk hf hz => loop_12 _ k τ1 rfl hk hf hz
  refine V_aload_n dL_steps_0 rfl ?_
  refine V_iconst dL_steps_1 ?_
  refine ll_0 ⟨by omega, by omega⟩ dL_steps_2 ?_
  refine V_eqT (y := zI (P 0 2)) (congrArg zI (LR.g2 hL)) ?_
  refine V_aload_n dL_steps_3 rfl ?_
  refine V_callSF (As := [.ref (b 0)]) hK (q_points hE b τ X P ⟨hM, hL⟩) mokL_points w871 w872 ⟨Nat.le_of_ble_eq_true rfl, Nat.le_of_ble_eq_true rfl⟩ rfl (Nat.le_of_ble_eq_true rfl) ⟨Nat.le_of_ble_eq_true rfl, Nat.le_of_ble_eq_true rfl⟩ dL_steps_4 (fun v w p_8 => ?_)
  obtain ⟨rfl, rfl⟩ := p_8
  show V K sL_steps 0 0 (lW b τ X) _ [.int (zI (pt P)), .int (zI (P 0 2))] 7
  refine V_imul dL_steps_7 ?_
  refine V_eqT (y := zI (al P)) (rfl) ?_
  refine V_istore_n (L' := [some (.ref (b 0)), some (.ref (b 1)), some (.ref (b 3)), some (.int (zI (al P))), none, none, none]) dL_steps_8 (by decide) rfl ?_
  refine V_iconst dL_steps_9 ?_
  refine V_istore (L' := [some (.ref (b 0)), some (.ref (b 1)), some (.ref (b 3)), some (.int (zI (al P))), some (.int (zI 0)), none, none]) dL_steps_10 (by decide) rfl ?_
  refine seg_12 0 τ ?_ ?_ ?_
  · omega
  · exact fr.rf _ _
  · intro j a b; omega
set_option maxRecDepth 100000 in
set_option maxHeartbeats 4000000 in
theorem q_wanted {E : EV} (hE : Stb E) (b : Nat → Nat) (τ : St) (X : vWd) (rd : Int) (cell : Int) (r : Int) (P : St) (hp : MI P ∧ LR P τ ∧ RB P r ∧ rd = rde P r ∧ (0 ≤ cell ∧ cell < al P)) : MC E yL_wanted sL_wanted [.ref (b 0), .int (zI rd), .int (zI cell)] (lW b τ X) (fun v w => v = some (.int (zI (wnt P cell r))) ∧ w = (lW b τ X)) := by
  refine MC.of hE [some (.ref (b 0)), some (.int (zI rd)), some (.int (zI cell)), none, none, none] 3 rfl rfl rfl (by simp [Value.category]) (Nat.le_of_ble_eq_true rfl) (fun K hK hR => ?_)
  obtain ⟨hM, hL, hp⟩ := hp
  have mR := hM.1
  have mC := hM.2.1
  have mN := hM.2.2.1
  have mp := hM.pts
  have ma := hM.als
  have mV := hM.2.2.2.1
  have mW := hM.2.2.2.2.1
  obtain ⟨hb, hrd, hcl⟩ := hp
  have hc := cell_st hM hcl.1 hcl.2
  have hr := place_rc hM hc.2.2.1 hc.2.2.2.1
  have hd := rde_dec hM hb
  rw [← hrd] at hd
  have hb7 := hb.2.2.1
  have hb8 := hb.2.2.2
  have hwi : wi P (cell % pt P) r = cell % pt P / P 0 1 - P 7 r := rfl
  have hwj : wj P (cell % pt P) r = cell % pt P % P 0 1 - P 8 r := rfl
  refine V_iload_n dL_wanted_0 rfl ?_
  refine V_aload_n dL_wanted_1 rfl ?_
  refine V_callSF (As := [.ref (b 0)]) hK (q_points hE b τ X P ⟨hM, hL⟩) mokL_points w871 w872 ⟨Nat.le_of_ble_eq_true rfl, Nat.le_of_ble_eq_true rfl⟩ rfl (Nat.le_of_ble_eq_true rfl) ⟨Nat.le_of_ble_eq_true rfl, Nat.le_of_ble_eq_true rfl⟩ dL_wanted_2 (fun v w p_1 => ?_)
  obtain ⟨rfl, rfl⟩ := p_1
  show V K sL_wanted 0 0 (lW b τ X) _ [.int (zI (pt P)), .int (zI cell)] 5
  refine V_iremN dL_wanted_5 ⟨⟨by omega, by omega⟩, ⟨by omega, by omega⟩, by omega, by omega⟩ ?_
  refine V_istore_n (L' := [some (.ref (b 0)), some (.int (zI rd)), some (.int (zI cell)), some (.int (zI (cell % (pt P)))), none, none]) dL_wanted_6 (by decide) rfl ?_
  refine V_iload_n dL_wanted_7 rfl ?_
  refine V_aload_n dL_wanted_8 rfl ?_
  refine V_iconst dL_wanted_9 ?_
  refine ll_0 ⟨by omega, by omega⟩ dL_wanted_10 ?_
  refine V_eqT (y := zI (P 0 1)) (congrArg zI (LR.g1 hL)) ?_
  refine V_idiv dL_wanted_11 ⟨⟨by omega, by omega⟩, ⟨by omega, by omega⟩, by omega, by omega⟩ ?_
  refine V_iload_n dL_wanted_12 rfl ?_
  refine V_sipush dL_wanted_13 (by decide) ?_
  refine V_idiv dL_wanted_16 ⟨⟨by omega, by omega⟩, ⟨by omega, by omega⟩, by omega, by omega⟩ ?_
  refine V_bipush dL_wanted_17 (by decide) ?_
  refine V_iremN dL_wanted_19 ⟨⟨by omega, by omega⟩, ⟨by omega, by omega⟩, by omega, by omega⟩ ?_
  refine V_isub dL_wanted_20 ?_
  refine V_eqT (y := zI (wi P (cell % pt P) r)) (by rw [hd.2.2.2.1]; rfl) ?_
  refine V_istore (L' := [some (.ref (b 0)), some (.int (zI rd)), some (.int (zI cell)), some (.int (zI (cell % (pt P)))), some (.int (zI (wi P (cell % pt P) r))), none]) dL_wanted_21 (by decide) rfl ?_
  refine V_iload_n dL_wanted_23 rfl ?_
  refine V_aload_n dL_wanted_24 rfl ?_
  refine V_iconst dL_wanted_25 ?_
  refine ll_0 ⟨by omega, by omega⟩ dL_wanted_26 ?_
  refine V_eqT (y := zI (P 0 1)) (congrArg zI (LR.g1 hL)) ?_
  refine V_iremN dL_wanted_27 ⟨⟨by omega, by omega⟩, ⟨by omega, by omega⟩, by omega, by omega⟩ ?_
  refine V_iload_n dL_wanted_28 rfl ?_
  refine V_sipush dL_wanted_29 (by decide) ?_
  refine V_idiv dL_wanted_32 ⟨⟨by omega, by omega⟩, ⟨by omega, by omega⟩, by omega, by omega⟩ ?_
  refine V_iconst dL_wanted_33 ?_
  refine V_isub dL_wanted_34 ?_
  refine V_isub dL_wanted_35 ?_
  refine V_eqT (y := zI (wj P (cell % pt P) r)) (by rw [hd.2.2.2.2]; rfl) ?_
  refine V_istore (L' := [some (.ref (b 0)), some (.int (zI rd)), some (.int (zI cell)), some (.int (zI (cell % (pt P)))), some (.int (zI (wi P (cell % pt P) r))), some (.int (zI (wj P (cell % pt P) r)))]) dL_wanted_36 (by decide) rfl ?_
  refine V_iload dL_wanted_38 rfl ?_
  refine V_if_lt (tgt := 56) dL_wanted_40 (by decide) ⟨by omega, by omega⟩ (fun c_2 => ?_) (fun c_2 => ?_)
  · refine V_iconst dL_wanted_56 ?_
    refine V_goto (tgt := 79) dL_wanted_57 (by decide) ?_
    refine V_iret hR rfl (Nat.le_of_ble_eq_true rfl) (Nat.le_of_ble_eq_true rfl) dL_wanted_79 ?_
    exact ⟨ziE (wnt_no (fun h => by have h1 := h.1; omega)), rfl⟩
  · refine V_iload dL_wanted_43 rfl ?_
    refine V_if_lt (tgt := 56) dL_wanted_45 (by decide) ⟨by omega, by omega⟩ (fun c_3 => ?_) (fun c_3 => ?_)
    · refine V_iconst dL_wanted_56 ?_
      refine V_goto (tgt := 79) dL_wanted_57 (by decide) ?_
      refine V_iret hR rfl (Nat.le_of_ble_eq_true rfl) (Nat.le_of_ble_eq_true rfl) dL_wanted_79 ?_
      exact ⟨ziE (wnt_no (fun h => by have h1 := h.2.2.1; omega)), rfl⟩
    · refine V_iload dL_wanted_48 rfl ?_
      refine V_aload_n dL_wanted_50 rfl ?_
      refine V_iconst dL_wanted_51 ?_
      refine ll_0 ⟨by omega, by omega⟩ dL_wanted_52 ?_
      refine V_eqT (y := zI (P 0 1)) (congrArg zI (LR.g1 hL)) ?_
      refine V_icmp_lt (tgt := 60) dL_wanted_53 (by decide) ⟨⟨by omega, by omega⟩, ⟨by omega, by omega⟩⟩ (fun c_4 => ?_) (fun c_4 => ?_)
      · refine V_iload_n dL_wanted_60 rfl ?_
        refine V_bipush dL_wanted_61 (by decide) ?_
        refine V_iremN dL_wanted_63 ⟨⟨by omega, by omega⟩, ⟨by omega, by omega⟩, by omega, by omega⟩ ?_
        refine V_eqT (y := zI (P 5 r)) (by rw [hd.2.1]) ?_
        refine V_aload_n dL_wanted_64 rfl ?_
        refine V_callSF (As := [.ref (b 0)]) hK (q_points hE b τ X P ⟨hM, hL⟩) mokL_points w871 w872 ⟨Nat.le_of_ble_eq_true rfl, Nat.le_of_ble_eq_true rfl⟩ rfl (Nat.le_of_ble_eq_true rfl) ⟨Nat.le_of_ble_eq_true rfl, Nat.le_of_ble_eq_true rfl⟩ dL_wanted_65 (fun v w p_5 => ?_)
        obtain ⟨rfl, rfl⟩ := p_5
        show V K sL_wanted 0 0 (lW b τ X) _ [.int (zI (pt P)), .int (zI (P 5 r))] 68
        refine V_imul dL_wanted_68 ?_
        refine V_iload dL_wanted_69 rfl ?_
        refine V_aload_n dL_wanted_71 rfl ?_
        refine V_iconst dL_wanted_72 ?_
        refine ll_0 ⟨by omega, by omega⟩ dL_wanted_73 ?_
        refine V_eqT (y := zI (P 0 1)) (congrArg zI (LR.g1 hL)) ?_
        refine V_imul dL_wanted_74 ?_
        refine V_iadd dL_wanted_75 ?_
        refine V_iload dL_wanted_76 rfl ?_
        refine V_iadd dL_wanted_78 ?_
        refine V_iret hR rfl (Nat.le_of_ble_eq_true rfl) (Nat.le_of_ble_eq_true rfl) dL_wanted_79 ?_
        exact ⟨ziE (by rw [wnt_yes (show inP P (cell % pt P) r from ⟨by omega, by omega, by omega, by omega⟩)]; unfold rdc rdp; omega), rfl⟩
      · refine V_iconst dL_wanted_56 ?_
        refine V_goto (tgt := 79) dL_wanted_57 (by decide) ?_
        refine V_iret hR rfl (Nat.le_of_ble_eq_true rfl) (Nat.le_of_ble_eq_true rfl) dL_wanted_79 ?_
        exact ⟨ziE (wnt_no (fun h => by have h1 := h.2.2.2; omega)), rfl⟩
set_option maxRecDepth 100000 in
set_option maxHeartbeats 4000000 in
theorem q_isInOrder {E : EV} (hE : Stb E) (b : Nat → Nat) (τ : St) (X : vWd) (s : Int) (j : Int) (P : St) (hp : MI P ∧ LR P τ ∧ LT P τ ∧ (0 ≤ s ∧ s < P 0 2) ∧ (0 ≤ j ∧ j < P 4 s)) : MC E yL_isInOrder sL_isInOrder [.ref (b 0), .ref (b 2), .ref (b 3), .int (zI s), .int (zI j)] (lW b τ X) (fun v w => v = some (.int (zI (bz (dcd (inO P (P 0 11) (P 0 12) s j))))) ∧ w = (lW b τ X)) := by
  refine MC.of hE [some (.ref (b 0)), some (.ref (b 2)), some (.ref (b 3)), some (.int (zI s)), some (.int (zI j)), none, none, none, none] 4 rfl rfl rfl (by simp [Value.category]) (Nat.le_of_ble_eq_true rfl) (fun K hK hR => ?_)
  obtain ⟨hM, hL, hp⟩ := hp
  have mR := hM.1
  have mC := hM.2.1
  have mN := hM.2.2.1
  have mp := hM.pts
  have ma := hM.als
  have mV := hM.2.2.2.1
  have mW := hM.2.2.2.2.1
  obtain ⟨hT, hs, hj⟩ := hp
  have hsm := hL.small hM
  have h4 := rds_b hM hs.1 (by omega)
  have hB : RB P (4 * s + j) := rd_b hM hs.1 (by omega) hj.1 hj.2
  have hrd := hL.rd hs.1 (by omega) hj.1 hj.2
  have loop_6 : ∀ (n0 : Nat) (p : Int) (bb : Bool), (pt P - p).toNat = n0 → (0 ≤ p ∧ p ≤ pt P) → (bb = true ↔ ∀ q, 0 ≤ q → q < p → (inP P q (4 * s + j) → bt P (P 0 11) (P 0 12) (rdc P q (4 * s + j)) < bt P (P 0 11) (P 0 12) (s * pt P + q))) → V K sL_isInOrder 0 0 (lW b τ X) [some (.ref (b 0)), some (.ref (b 2)), some (.ref (b 3)), some (.int (zI s)), some (.int (zI j)), some (.int (zI (bz bb))), some (.int (zI p)), none, none] [] 6 := by
    intro n0
    induction n0 using Nat.strongRecOn with
    | _ n0 ih_6 =>
    intro p bb hm_6 hq hb
    have seg_68 : ∀ (b2 : Bool), (p < pt P) → (b2 = true ↔ (bb = true ∧ (inP P p (4 * s + j) → bt P (P 0 11) (P 0 12) (rdc P p (4 * s + j)) < bt P (P 0 11) (P 0 12) (s * pt P + p)))) → V K sL_isInOrder 0 0 (lW b τ X) [some (.ref (b 0)), some (.ref (b 2)), some (.ref (b 3)), some (.int (zI s)), some (.int (zI j)), none, some (.int (zI p)), none, none] [.int (zI (bz b2))] 68 := by
      intro b2 hpn hb2
      refine V_istore (L' := [some (.ref (b 0)), some (.ref (b 2)), some (.ref (b 3)), some (.int (zI s)), some (.int (zI j)), some (.int (zI (bz b2))), some (.int (zI p)), none, none]) dL_isInOrder_68 (by decide) rfl ?_
      refine V_iinc (L' := [some (.ref (b 0)), some (.ref (b 2)), some (.ref (b 3)), some (.int (zI s)), some (.int (zI j)), some (.int (zI (bz b2))), some (.int (zI (p + 1))), none, none]) dL_isInOrder_70 (by decide) rfl rfl ?_
      refine V_goto (tgt := 6) dL_isInOrder_73 (by decide) ?_
      refine ih_6 _ (by omega) (p + 1) b2 rfl ?_ ?_
      · omega
      · exact ball_s hb hq.1 hb2
    refine V_iload dL_isInOrder_6 rfl ?_
    refine V_aload_n dL_isInOrder_8 rfl ?_
    refine V_callSF (As := [.ref (b 0)]) hK (q_points hE b τ X P ⟨hM, hL⟩) mokL_points w871 w872 ⟨Nat.le_of_ble_eq_true rfl, Nat.le_of_ble_eq_true rfl⟩ rfl (Nat.le_of_ble_eq_true rfl) ⟨Nat.le_of_ble_eq_true rfl, Nat.le_of_ble_eq_true rfl⟩ dL_isInOrder_9 (fun v w p_1 => ?_)
    obtain ⟨rfl, rfl⟩ := p_1
    show V K sL_isInOrder 0 0 (lW b τ X) _ [.int (zI (pt P)), .int (zI p)] 12
    refine V_icmp_ge (tgt := 76) dL_isInOrder_12 (by decide) ⟨⟨by omega, by omega⟩, ⟨by omega, by omega⟩⟩ (fun c_2 => ?_) (fun c_2 => ?_)
    · refine V_iload dL_isInOrder_76 rfl ?_
      refine V_zret hR rfl (Nat.le_of_ble_eq_true rfl) (Nat.le_of_ble_eq_true rfl) dL_isInOrder_78 ?_
      exact ⟨bzE (dcd_of (hb.trans ⟨fun h q a c => h q a (by omega), fun h q a _ => h q a (by omega)⟩)), rfl⟩
    · refine V_iload_n dL_isInOrder_15 rfl ?_
      refine V_aload_n dL_isInOrder_16 rfl ?_
      refine V_callSF (As := [.ref (b 0)]) hK (q_points hE b τ X P ⟨hM, hL⟩) mokL_points w871 w872 ⟨Nat.le_of_ble_eq_true rfl, Nat.le_of_ble_eq_true rfl⟩ rfl (Nat.le_of_ble_eq_true rfl) ⟨Nat.le_of_ble_eq_true rfl, Nat.le_of_ble_eq_true rfl⟩ dL_isInOrder_17 (fun v w p_3 => ?_)
      obtain ⟨rfl, rfl⟩ := p_3
      show V K sL_isInOrder 0 0 (lW b τ X) _ [.int (zI (pt P)), .int (zI s)] 20
      refine V_imul dL_isInOrder_20 ?_
      refine V_iload dL_isInOrder_21 rfl ?_
      refine V_iadd dL_isInOrder_23 ?_
      refine V_istore (L' := [some (.ref (b 0)), some (.ref (b 2)), some (.ref (b 3)), some (.int (zI s)), some (.int (zI j)), some (.int (zI (bz bb))), some (.int (zI p)), some (.int (zI ((s * (pt P)) + p))), none]) dL_isInOrder_24 (by decide) rfl ?_
      have hcm := comp_eq hM hs.1 hs.2 hq.1 (show p < pt P by omega)
      refine V_aload_n dL_isInOrder_26 rfl ?_
      refine V_aload_n dL_isInOrder_27 rfl ?_
      refine V_iconst dL_isInOrder_28 ?_
      refine V_iload_n dL_isInOrder_29 rfl ?_
      refine V_imul dL_isInOrder_30 ?_
      refine V_iload dL_isInOrder_31 rfl ?_
      refine V_iadd dL_isInOrder_33 ?_
      refine ll_2 ⟨by omega, by omega⟩ dL_isInOrder_34 ?_
      refine V_eqT (y := zI (rde P (4 * s + j))) (congrArg zI hrd) ?_
      refine V_iload dL_isInOrder_35 rfl ?_
      refine V_callSF (As := [.ref (b 0), .int (zI (rde P (4 * s + j))), .int (zI ((s * (pt P)) + p))]) hK (q_wanted hE b τ X (rde P (4 * s + j)) ((s * (pt P)) + p) (4 * s + j) P ⟨hM, hL, hB, rfl, hcm.1⟩) mokL_wanted w880 w881 ⟨Nat.le_of_ble_eq_true rfl, Nat.le_of_ble_eq_true rfl⟩ rfl (Nat.le_of_ble_eq_true rfl) ⟨Nat.le_of_ble_eq_true rfl, Nat.le_of_ble_eq_true rfl⟩ dL_isInOrder_37 (fun v w p_4 => ?_)
      obtain ⟨rfl, rfl⟩ := p_4
      show V K sL_isInOrder 0 0 (lW b τ X) _ [.int (zI (wnt P ((s * (pt P)) + p) (4 * s + j)))] 40
      refine V_istore (L' := [some (.ref (b 0)), some (.ref (b 2)), some (.ref (b 3)), some (.int (zI s)), some (.int (zI j)), some (.int (zI (bz bb))), some (.int (zI p)), some (.int (zI ((s * (pt P)) + p))), some (.int (zI (wnt P ((s * (pt P)) + p) (4 * s + j))))]) dL_isInOrder_40 (by decide) rfl ?_
      have hlo := wnt_lo hM hcm.1.1 hcm.1.2 hB
      have hwb := wnt_b hM hs.1 hs.2 hq.1 (show p < pt P by omega) hB
      have hw1 : wnt P (s * pt P + p) (4 * s + j) < 0 → ¬ inP P p (4 * s + j) := hwb.1
      have hw2 : 0 ≤ wnt P (s * pt P + p) (4 * s + j) → (0 ≤ wnt P (s * pt P + p) (4 * s + j) ∧ wnt P (s * pt P + p) (4 * s + j) < al P) ∧ wnt P (s * pt P + p) (4 * s + j) = rdc P p (4 * s + j) := fun h => ⟨(hwb.2 h).2.2, (hwb.2 h).2.1⟩
      refine V_iload dL_isInOrder_42 rfl ?_
      refine V_ifb_eq (tgt := 67) dL_isInOrder_44 (by decide) (fun c_5 => ?_) (fun c_5 => ?_)
      · refine V_iconst dL_isInOrder_67 ?_
        refine V_mask (L' := [some (.ref (b 0)), some (.ref (b 2)), some (.ref (b 3)), some (.int (zI s)), some (.int (zI j)), none, some (.int (zI p)), none, none]) [true, true, true, true, true, false, true, false, false] rfl ?_
        refine seg_68 false ?_ ?_
        · omega
        · exact ⟨(fun h => nomatch h), (fun h => by rw [c_5] at h; exact nomatch h.1)⟩
      · refine V_iload dL_isInOrder_47 rfl ?_
        refine V_if_lt (tgt := 63) dL_isInOrder_49 (by decide) ⟨by omega, by omega⟩ (fun c_6 => ?_) (fun c_6 => ?_)
        · refine V_iconst dL_isInOrder_63 ?_
          refine V_goto (tgt := 68) dL_isInOrder_64 (by decide) ?_
          refine V_mask (L' := [some (.ref (b 0)), some (.ref (b 2)), some (.ref (b 3)), some (.int (zI s)), some (.int (zI j)), none, some (.int (zI p)), none, none]) [true, true, true, true, true, false, true, false, false] rfl ?_
          refine seg_68 true ?_ ?_
          · omega
          · exact ⟨fun _ => ⟨c_5, fun h => absurd h (hw1 c_6)⟩, fun _ => rfl⟩
        · have hw3 := (hw2 (by omega)).1
          refine V_aload_n dL_isInOrder_52 rfl ?_
          refine V_iload dL_isInOrder_53 rfl ?_
          refine ll_3 ⟨by omega, by omega⟩ dL_isInOrder_55 ?_
          refine V_eqT (y := zI (bt P (P 0 11) (P 0 12) (rdc P p (4 * s + j)))) (by rw [hT _ hw3.1 hw3.2, (hw2 (by omega)).2]) ?_
          refine V_aload_n dL_isInOrder_56 rfl ?_
          refine V_iload dL_isInOrder_57 rfl ?_
          refine ll_3 ⟨by omega, by omega⟩ dL_isInOrder_59 ?_
          have kb := bt_b (P := P) (bw := P 0 11) (cw := P 0 12) hcm.1.1 hcm.1.2
          have kd := bt_b (P := P) (bw := P 0 11) (cw := P 0 12) hw3.1 hw3.2
          rw [(hw2 (by omega)).2] at kd
          refine V_eqT (y := zI (bt P (P 0 11) (P 0 12) (s * pt P + p))) (by rw [hT _ hcm.1.1 hcm.1.2]) ?_
          refine V_icmp_ge (tgt := 67) dL_isInOrder_60 (by decide) ⟨⟨by omega, by omega⟩, ⟨by omega, by omega⟩⟩ (fun c_7 => ?_) (fun c_7 => ?_)
          · refine V_iconst dL_isInOrder_67 ?_
            refine V_mask (L' := [some (.ref (b 0)), some (.ref (b 2)), some (.ref (b 3)), some (.int (zI s)), some (.int (zI j)), none, some (.int (zI p)), none, none]) [true, true, true, true, true, false, true, false, false] rfl ?_
            refine seg_68 false ?_ ?_
            · omega
            · exact ⟨(fun h => nomatch h), fun h => absurd (h.2 (hwb.2 c_6).1) (by omega)⟩
          · refine V_iconst dL_isInOrder_63 ?_
            refine V_goto (tgt := 68) dL_isInOrder_64 (by decide) ?_
            refine V_mask (L' := [some (.ref (b 0)), some (.ref (b 2)), some (.ref (b 3)), some (.int (zI s)), some (.int (zI j)), none, some (.int (zI p)), none, none]) [true, true, true, true, true, false, true, false, false] rfl ?_
            refine seg_68 true ?_ ?_
            · omega
            · exact ⟨fun _ => ⟨c_5, fun _ => c_7⟩, fun _ => rfl⟩
  have seg_6 : ∀ (p : Int) (bb : Bool), (0 ≤ p ∧ p ≤ pt P) → (bb = true ↔ ∀ q, 0 ≤ q → q < p → (inP P q (4 * s + j) → bt P (P 0 11) (P 0 12) (rdc P q (4 * s + j)) < bt P (P 0 11) (P 0 12) (s * pt P + q))) → V K sL_isInOrder 0 0 (lW b τ X) [some (.ref (b 0)), some (.ref (b 2)), some (.ref (b 3)), some (.int (zI s)), some (.int (zI j)), some (.int (zI (bz bb))), some (.int (zI p)), none, none] [] 6 := fun p bb hq hb => loop_6 _ p bb rfl hq hb
  refine V_iconst dL_isInOrder_0 ?_
  refine V_istore (L' := [some (.ref (b 0)), some (.ref (b 2)), some (.ref (b 3)), some (.int (zI s)), some (.int (zI j)), some (.int (zI 1)), none, none, none]) dL_isInOrder_1 (by decide) rfl ?_
  refine V_iconst dL_isInOrder_3 ?_
  refine V_istore (L' := [some (.ref (b 0)), some (.ref (b 2)), some (.ref (b 3)), some (.int (zI s)), some (.int (zI j)), some (.int (zI 1)), some (.int (zI 0)), none, none]) dL_isInOrder_4 (by decide) rfl ?_
  refine seg_6 0 true ?_ ?_
  · omega
  · exact ⟨fun _ q a b => absurd b (by omega), fun _ => rfl⟩
set_option maxRecDepth 100000 in
set_option maxHeartbeats 4000000 in
theorem q_isAllowed {E : EV} (hE : Stb E) (b : Nat → Nat) (τ : St) (X : vWd) (P : St) (hp : MI P ∧ LR P τ ∧ LT P τ) : MC E yL_isAllowed sL_isAllowed [.ref (b 0), .ref (b 1), .ref (b 2), .ref (b 3)] (lW b τ X) (fun v w => v = some (.int (zI (bz (dcd (alw P (P 0 11) (P 0 12)))))) ∧ w = (lW b τ X)) := by
  refine MC.of hE [some (.ref (b 0)), some (.ref (b 1)), some (.ref (b 2)), some (.ref (b 3)), none, none, none] 3 rfl rfl rfl (by simp [Value.category]) (Nat.le_of_ble_eq_true rfl) (fun K hK hR => ?_)
  obtain ⟨hM, hL, hp⟩ := hp
  have mR := hM.1
  have mC := hM.2.1
  have mN := hM.2.2.1
  have mp := hM.pts
  have ma := hM.als
  have mV := hM.2.2.2.1
  have mW := hM.2.2.2.2.1
  have loop_6 : ∀ (n0 : Nat) (s : Int) (bb : Bool), (P 0 2 - s).toNat = n0 → (0 ≤ s ∧ s ≤ P 0 2) → (bb = true ↔ ∀ i, 0 ≤ i → i < s → ∀ j, 0 ≤ j → j < P 4 i → inO P (P 0 11) (P 0 12) i j) → V K sL_isAllowed 0 0 (lW b τ X) [some (.ref (b 0)), some (.ref (b 1)), some (.ref (b 2)), some (.ref (b 3)), some (.int (zI (bz bb))), some (.int (zI s)), none] [] 6 := by
    intro n0
    induction n0 using Nat.strongRecOn with
    | _ n0 ih_6 =>
    intro s bb hm_6 hs hb
    have loop_17 : ∀ (n0 : Nat) (j : Int) (b2 : Bool), (P 4 s - j).toNat = n0 → (s < P 0 2) → (0 ≤ j ∧ j ≤ P 4 s) → (b2 = true ↔ (bb = true ∧ ∀ i, 0 ≤ i → i < j → inO P (P 0 11) (P 0 12) s i)) → V K sL_isAllowed 0 0 (lW b τ X) [some (.ref (b 0)), some (.ref (b 1)), some (.ref (b 2)), some (.ref (b 3)), some (.int (zI (bz b2))), some (.int (zI s)), some (.int (zI j))] [] 17 := by
      intro n0
      induction n0 using Nat.strongRecOn with
      | _ n0 ih_17 =>
      intro j b2 hm_17 hsn hj hb2
      have seg_51 : ∀ (b3 : Bool), (j < P 4 s) → (b3 = true ↔ (b2 = true ∧ inO P (P 0 11) (P 0 12) s j)) → V K sL_isAllowed 0 0 (lW b τ X) [some (.ref (b 0)), some (.ref (b 1)), some (.ref (b 2)), some (.ref (b 3)), none, some (.int (zI s)), some (.int (zI j))] [.int (zI (bz b3))] 51 := by
        intro b3 hjn hb3
        refine V_istore (L' := [some (.ref (b 0)), some (.ref (b 1)), some (.ref (b 2)), some (.ref (b 3)), some (.int (zI (bz b3))), some (.int (zI s)), some (.int (zI j))]) dL_isAllowed_51 (by decide) rfl ?_
        refine V_iinc (L' := [some (.ref (b 0)), some (.ref (b 1)), some (.ref (b 2)), some (.ref (b 3)), some (.int (zI (bz b3))), some (.int (zI s)), some (.int (zI (j + 1)))]) dL_isAllowed_53 (by decide) rfl rfl ?_
        refine V_goto (tgt := 17) dL_isAllowed_56 (by decide) ?_
        refine ih_17 _ (by omega) (j + 1) b3 rfl ?_ ?_ ?_
        · omega
        · omega
        · exact band_s hb2 hj.1 hb3
      refine V_iload dL_isAllowed_17 rfl ?_
      have h4 := rds_b hM hs.1 (by omega)
      refine V_aload_n dL_isAllowed_19 rfl ?_
      refine V_iconst dL_isAllowed_20 ?_
      refine V_iload dL_isAllowed_21 rfl ?_
      refine V_iadd dL_isAllowed_23 ?_
      refine ll_1 ⟨by omega, by omega⟩ dL_isAllowed_24 ?_
      refine V_eqT (y := zI (P 4 s)) (congrArg zI (hL.at hs.1 (by omega)).2.1) ?_
      refine V_icmp_ge (tgt := 59) dL_isAllowed_25 (by decide) ⟨⟨by omega, by omega⟩, ⟨by omega, by omega⟩⟩ (fun c_1 => ?_) (fun c_1 => ?_)
      · refine V_iinc (L' := [some (.ref (b 0)), some (.ref (b 1)), some (.ref (b 2)), some (.ref (b 3)), some (.int (zI (bz b2))), some (.int (zI (s + 1))), some (.int (zI j))]) dL_isAllowed_59 (by decide) rfl rfl ?_
        refine V_goto (tgt := 6) dL_isAllowed_62 (by decide) ?_
        refine V_mask (L' := [some (.ref (b 0)), some (.ref (b 1)), some (.ref (b 2)), some (.ref (b 3)), some (.int (zI (bz b2))), some (.int (zI (s + 1))), none]) [true, true, true, true, true, true, false] rfl ?_
        refine ih_6 _ (by omega) (s + 1) b2 rfl ?_ ?_
        · omega
        · exact ball_s hb hs.1 (hb2.trans ⟨fun h => ⟨h.1, fun i a b => h.2 i a (by omega)⟩, fun h => ⟨h.1, fun i a b => h.2 i a (by omega)⟩⟩)
      · refine V_iload dL_isAllowed_28 rfl ?_
        refine V_ifb_eq (tgt := 50) dL_isAllowed_30 (by decide) (fun c_2 => ?_) (fun c_2 => ?_)
        · refine V_iconst dL_isAllowed_50 ?_
          refine V_mask (L' := [some (.ref (b 0)), some (.ref (b 1)), some (.ref (b 2)), some (.ref (b 3)), none, some (.int (zI s)), some (.int (zI j))]) [true, true, true, true, false, true, true] rfl ?_
          refine seg_51 false ?_ ?_
          · omega
          · exact ⟨(fun h => nomatch h), (fun h => by rw [c_2] at h; exact nomatch h.1)⟩
        · refine V_aload_n dL_isAllowed_33 rfl ?_
          refine V_aload_n dL_isAllowed_34 rfl ?_
          refine V_aload_n dL_isAllowed_35 rfl ?_
          refine V_iload dL_isAllowed_36 rfl ?_
          refine V_iload dL_isAllowed_38 rfl ?_
          refine V_callSF (As := [.ref (b 0), .ref (b 2), .ref (b 3), .int (zI s), .int (zI j)]) hK (q_isInOrder hE b τ X s j P ⟨hM, hL, hp, ⟨hs.1, hsn⟩, hj.1, by omega⟩) mokL_isInOrder w889 w890 ⟨Nat.le_of_ble_eq_true rfl, Nat.le_of_ble_eq_true rfl⟩ rfl (Nat.le_of_ble_eq_true rfl) ⟨Nat.le_of_ble_eq_true rfl, Nat.le_of_ble_eq_true rfl⟩ dL_isAllowed_40 (fun v w p_3 => ?_)
          obtain ⟨rfl, rfl⟩ := p_3
          show V K sL_isAllowed 0 0 (lW b τ X) _ [.int (zI (bz (dcd (inO P (P 0 11) (P 0 12) s j))))] 43
          refine V_ifc_eq (tgt := 50) dL_isAllowed_43 (by decide) (fun c_4 => ?_) (fun c_4 => ?_)
          · refine V_iconst dL_isAllowed_50 ?_
            refine V_mask (L' := [some (.ref (b 0)), some (.ref (b 1)), some (.ref (b 2)), some (.ref (b 3)), none, some (.int (zI s)), some (.int (zI j))]) [true, true, true, true, false, true, true] rfl ?_
            refine seg_51 false ?_ ?_
            · omega
            · exact ⟨(fun h => nomatch h), fun h => absurd h.2 c_4⟩
          · refine V_iconst dL_isAllowed_46 ?_
            refine V_goto (tgt := 51) dL_isAllowed_47 (by decide) ?_
            refine V_mask (L' := [some (.ref (b 0)), some (.ref (b 1)), some (.ref (b 2)), some (.ref (b 3)), none, some (.int (zI s)), some (.int (zI j))]) [true, true, true, true, false, true, true] rfl ?_
            refine seg_51 true ?_ ?_
            · omega
            · exact ⟨fun _ => ⟨c_2, c_4⟩, fun _ => rfl⟩
    have seg_17 : ∀ (j : Int) (b2 : Bool), (s < P 0 2) → (0 ≤ j ∧ j ≤ P 4 s) → (b2 = true ↔ (bb = true ∧ ∀ i, 0 ≤ i → i < j → inO P (P 0 11) (P 0 12) s i)) → V K sL_isAllowed 0 0 (lW b τ X) [some (.ref (b 0)), some (.ref (b 1)), some (.ref (b 2)), some (.ref (b 3)), some (.int (zI (bz b2))), some (.int (zI s)), some (.int (zI j))] [] 17 := fun j b2 hsn hj hb2 => loop_17 _ j b2 rfl hsn hj hb2
    refine V_iload dL_isAllowed_6 rfl ?_
    refine V_aload_n dL_isAllowed_8 rfl ?_
    refine V_iconst dL_isAllowed_9 ?_
    refine ll_0 ⟨by omega, by omega⟩ dL_isAllowed_10 ?_
    refine V_eqT (y := zI (P 0 2)) (congrArg zI (LR.g2 hL)) ?_
    refine V_icmp_ge (tgt := 65) dL_isAllowed_11 (by decide) ⟨⟨by omega, by omega⟩, ⟨by omega, by omega⟩⟩ (fun c_5 => ?_) (fun c_5 => ?_)
    · refine V_iload dL_isAllowed_65 rfl ?_
      refine V_zret hR rfl (Nat.le_of_ble_eq_true rfl) (Nat.le_of_ble_eq_true rfl) dL_isAllowed_67 ?_
      exact ⟨bzE (dcd_of (hb.trans ⟨fun h i a c => h i a (by omega), fun h i a _ => h i a (by omega)⟩)), rfl⟩
    · refine V_iconst dL_isAllowed_14 ?_
      refine V_istore (L' := [some (.ref (b 0)), some (.ref (b 1)), some (.ref (b 2)), some (.ref (b 3)), some (.int (zI (bz bb))), some (.int (zI s)), some (.int (zI 0))]) dL_isAllowed_15 (by decide) rfl ?_
      refine seg_17 0 bb ?_ ?_ ?_
      · omega
      · exact ⟨by omega, (rds_b hM hs.1 (by omega)).1⟩
      · exact ⟨fun h => ⟨h, fun q a b => absurd b (by omega)⟩, fun h => h.1⟩
  have seg_6 : ∀ (s : Int) (bb : Bool), (0 ≤ s ∧ s ≤ P 0 2) → (bb = true ↔ ∀ i, 0 ≤ i → i < s → ∀ j, 0 ≤ j → j < P 4 i → inO P (P 0 11) (P 0 12) i j) → V K sL_isAllowed 0 0 (lW b τ X) [some (.ref (b 0)), some (.ref (b 1)), some (.ref (b 2)), some (.ref (b 3)), some (.int (zI (bz bb))), some (.int (zI s)), none] [] 6 := fun s bb hs hb => loop_6 _ s bb rfl hs hb
  refine V_iconst dL_isAllowed_0 ?_
  refine V_istore (L' := [some (.ref (b 0)), some (.ref (b 1)), some (.ref (b 2)), some (.ref (b 3)), some (.int (zI 1)), none, none]) dL_isAllowed_1 (by decide) rfl ?_
  refine V_iconst dL_isAllowed_3 ?_
  refine V_istore (L' := [some (.ref (b 0)), some (.ref (b 1)), some (.ref (b 2)), some (.ref (b 3)), some (.int (zI 1)), some (.int (zI 0)), none]) dL_isAllowed_4 (by decide) rfl ?_
  refine seg_6 0 true ?_ ?_
  · omega
  · exact ⟨fun _ q a b => absurd b (by omega), fun _ => rfl⟩
set_option maxRecDepth 100000 in
set_option maxHeartbeats 4000000 in
theorem q_ends {E : EV} (hE : Stb E) (b : Nat → Nat) (τ : St) (X : vWd) (P : St) (hp : MI P ∧ LR P τ ∧ LT P τ) : MC E yL_ends sL_ends [.ref (b 0), .ref (b 1), .ref (b 2), .ref (b 3), .ref (b 4)] (lW b τ X) (fun v w => ∃ (τ2 : St), v = none ∧ w = (lW b τ2 X) ∧ (fr [4] τ τ2) ∧ (LE P τ2)) := by
  refine MC.of hE [some (.ref (b 0)), some (.ref (b 1)), some (.ref (b 2)), some (.ref (b 3)), some (.ref (b 4)), none, none, none, none, none] 5 rfl rfl rfl (by simp [Value.category]) (Nat.le_of_ble_eq_true rfl) (fun K hK hR => ?_)
  obtain ⟨hM, hL, hp⟩ := hp
  have mR := hM.1
  have mC := hM.2.1
  have mN := hM.2.2.1
  have mp := hM.pts
  have ma := hM.als
  have mV := hM.2.2.2.1
  have mW := hM.2.2.2.2.1
  have hsm := hL.small hM
  have loop_59 : ∀ (n0 : Nat) (k : Int) (τ1 : St), (al P - k).toNat = n0 → (0 ≤ k ∧ k ≤ al P) → (fr [4] τ τ1) → (∀ q, 0 ≤ q → q < al P → EndS (R2 P (P 0 11) (P 0 12) k 0 q) (eb P (P 0 11) (P 0 12) q) (τ1 4 q)) → V K sL_ends 0 0 (lW b τ1 X) [some (.ref (b 0)), some (.ref (b 1)), some (.ref (b 2)), some (.ref (b 3)), some (.ref (b 4)), some (.int (zI (al P))), some (.int (zI k)), none, none, none] [] 59 := by
    intro n0
    induction n0 using Nat.strongRecOn with
    | _ n0 ih_59 =>
    intro k τ1 hm_59 hk hf hEn
    have loop_78 : ∀ (n0 : Nat) (n : Int) (τ3 : St), (P 4 (k / pt P) - n).toNat = n0 → (k < al P) → (0 ≤ n ∧ n ≤ P 4 (k / pt P)) → (fr [4] τ τ3) → (∀ q, 0 ≤ q → q < al P → EndS (R2 P (P 0 11) (P 0 12) k n q) (eb P (P 0 11) (P 0 12) q) (τ3 4 q)) → V K sL_ends 0 0 (lW b τ3 X) [some (.ref (b 0)), some (.ref (b 1)), some (.ref (b 2)), some (.ref (b 3)), some (.ref (b 4)), some (.int (zI (al P))), some (.int (zI k)), some (.int (zI (k / pt P))), some (.int (zI n)), none] [] 78 := by
      intro n0
      induction n0 using Nat.strongRecOn with
      | _ n0 ih_78 =>
      intro n τ3 hm_78 hkn hn hf3 hE3
      refine V_iload dL_ends_78 rfl ?_
      have hcs := cell_st hM hk.1 hkn
      have h4 := rds_b hM hcs.1 (show k / pt P < 4 by omega)
      refine V_aload_n dL_ends_80 rfl ?_
      refine V_iconst dL_ends_81 ?_
      refine V_iload dL_ends_82 rfl ?_
      refine V_iadd dL_ends_84 ?_
      refine ll_1 ⟨by omega, by omega⟩ dL_ends_85 ?_
      refine V_eqT (y := zI (P 4 (k / pt P))) (congrArg zI ((hL.fr hf3 (by decide)).at hcs.1 (by omega)).2.1) ?_
      refine V_icmp_ge (tgt := 149) dL_ends_86 (by decide) ⟨⟨by omega, by omega⟩, ⟨by omega, by omega⟩⟩ (fun c_1 => ?_) (fun c_1 => ?_)
      · refine V_iinc (L' := [some (.ref (b 0)), some (.ref (b 1)), some (.ref (b 2)), some (.ref (b 3)), some (.ref (b 4)), some (.int (zI (al P))), some (.int (zI (k + 1))), some (.int (zI (k / pt P))), some (.int (zI n)), none]) dL_ends_149 (by decide) rfl rfl ?_
        refine V_goto (tgt := 59) dL_ends_152 (by decide) ?_
        refine V_mask (L' := [some (.ref (b 0)), some (.ref (b 1)), some (.ref (b 2)), some (.ref (b 3)), some (.ref (b 4)), some (.int (zI (al P))), some (.int (zI (k + 1))), none, none, none]) [true, true, true, true, true, true, true, false, false, false] rfl ?_
        refine ih_59 _ (by omega) (k + 1) τ3 rfl ?_ ?_ ?_
        · omega
        · exact hf3
        · intro q a b2
          exact (hE3 q a b2).congr (fun x => by rw [show n = P 4 (k / pt P) by omega]; exact R2_next)
      · have hB : RB P (4 * (k / pt P) + n) := rd_b hM hcs.1 (by omega) hn.1 (by omega)
        have e3 : τ3 3 = τ 3 := hf3 3 (by decide)
        have kb := bt_b (P := P) (bw := P 0 11) (cw := P 0 12) hk.1 hkn
        refine V_aload_n dL_ends_89 rfl ?_
        refine V_aload_n dL_ends_90 rfl ?_
        refine V_iconst dL_ends_91 ?_
        refine V_iload dL_ends_92 rfl ?_
        refine V_imul dL_ends_94 ?_
        refine V_iload dL_ends_95 rfl ?_
        refine V_iadd dL_ends_97 ?_
        refine ll_2 ⟨by omega, by omega⟩ dL_ends_98 ?_
        refine V_eqT (y := zI (rde P (4 * (k / pt P) + n))) (congrArg zI ((hL.fr hf3 (by decide)).rd hcs.1 (by omega) hn.1 (by omega))) ?_
        refine V_iload dL_ends_99 rfl ?_
        refine V_callSF (As := [.ref (b 0), .int (zI (rde P (4 * (k / pt P) + n))), .int (zI k)]) hK (q_wanted hE b τ3 X (rde P (4 * (k / pt P) + n)) k (4 * (k / pt P) + n) P ⟨hM, (hL.fr hf3 (by decide)), hB, rfl, hk.1, hkn⟩) mokL_wanted w880 w881 ⟨Nat.le_of_ble_eq_true rfl, Nat.le_of_ble_eq_true rfl⟩ rfl (Nat.le_of_ble_eq_true rfl) ⟨Nat.le_of_ble_eq_true rfl, Nat.le_of_ble_eq_true rfl⟩ dL_ends_101 (fun v w p_2 => ?_)
        obtain ⟨rfl, rfl⟩ := p_2
        show V K sL_ends 0 0 (lW b τ3 X) _ [.int (zI (wnt P k (4 * (k / pt P) + n)))] 104
        refine V_istore (L' := [some (.ref (b 0)), some (.ref (b 1)), some (.ref (b 2)), some (.ref (b 3)), some (.ref (b 4)), some (.int (zI (al P))), some (.int (zI k)), some (.int (zI (k / pt P))), some (.int (zI n)), some (.int (zI (wnt P k (4 * (k / pt P) + n))))]) dL_ends_104 (by decide) rfl ?_
        have hlo := wnt_lo hM hk.1 hkn hB
        have hwb := wnt_k hM hk.1 hkn hB
        have hsp := fun q x : Int => R2_step (P := P) (bw := P 0 11) (cw := P 0 12) (k := k) (n := n) (q := q) (x := x) hk.1 hkn hn.1
        refine V_iload dL_ends_106 rfl ?_
        refine V_if_lt (tgt := 143) dL_ends_108 (by decide) ⟨by omega, by omega⟩ (fun c_3 => ?_) (fun c_3 => ?_)
        · refine V_iinc (L' := [some (.ref (b 0)), some (.ref (b 1)), some (.ref (b 2)), some (.ref (b 3)), some (.ref (b 4)), some (.int (zI (al P))), some (.int (zI k)), some (.int (zI (k / pt P))), some (.int (zI (n + 1))), some (.int (zI (wnt P k (4 * (k / pt P) + n))))]) dL_ends_143 (by decide) rfl rfl ?_
          refine V_goto (tgt := 78) dL_ends_146 (by decide) ?_
          refine V_mask (L' := [some (.ref (b 0)), some (.ref (b 1)), some (.ref (b 2)), some (.ref (b 3)), some (.ref (b 4)), some (.int (zI (al P))), some (.int (zI k)), some (.int (zI (k / pt P))), some (.int (zI (n + 1))), none]) [true, true, true, true, true, true, true, true, true, false] rfl ?_
          refine ih_78 _ (by omega) (n + 1) τ3 rfl ?_ ?_ ?_ ?_
          · omega
          · omega
          · exact hf3
          · intro q a b2
            exact (hE3 q a b2).congr (fun x => ⟨fun z => (hsp q x).mpr (Or.inl z), fun z => ((hsp q x).mp z).elim id (fun w => absurd w.1.1 (hwb.1 c_3))⟩)
        · have hits := (hwb.2 (by omega)).2
          have hip := (hwb.2 (by omega)).1
          refine V_aload_n dL_ends_111 rfl ?_
          refine V_iload dL_ends_112 rfl ?_
          refine ll_3 ⟨by omega, by omega⟩ dL_ends_114 ?_
          refine V_eqT (y := zI (bt P (P 0 11) (P 0 12) k)) (by rw [e3, hp _ hk.1 hkn]) ?_
          refine V_aload_n dL_ends_115 rfl ?_
          refine V_iload dL_ends_116 rfl ?_
          refine ll_3 ⟨by omega, by omega⟩ dL_ends_118 ?_
          have kd := bt_b (P := P) (bw := P 0 11) (cw := P 0 12) hits.1.1 hits.1.2
          rw [hits.2] at kd
          have hEi := hE3 _ hits.1.1 hits.1.2
          rw [hits.2] at hEi
          have hEb := R2_b (by rw [← hits.2]; exact hits.1.1) (by rw [← hits.2]; exact hits.1.2) hEi
          have hbe := eb_bt (P := P) (bw := P 0 11) (cw := P 0 12) (k := rdc P (k % pt P) (4 * (k / pt P) + n)) (by rw [← hits.2]; exact hits.1.1) (by rw [← hits.2]; exact hits.1.2)
          have hEe := hEi.1
          refine V_eqT (y := zI (bt P (P 0 11) (P 0 12) (rdc P (k % pt P) (4 * (k / pt P) + n)))) (by rw [e3, hp _ hits.1.1 hits.1.2, hits.2]) ?_
          refine V_icmp_le (tgt := 143) dL_ends_119 (by decide) ⟨⟨by omega, by omega⟩, ⟨by omega, by omega⟩⟩ (fun c_4 => ?_) (fun c_4 => ?_)
          · refine V_iinc (L' := [some (.ref (b 0)), some (.ref (b 1)), some (.ref (b 2)), some (.ref (b 3)), some (.ref (b 4)), some (.int (zI (al P))), some (.int (zI k)), some (.int (zI (k / pt P))), some (.int (zI (n + 1))), some (.int (zI (wnt P k (4 * (k / pt P) + n))))]) dL_ends_143 (by decide) rfl rfl ?_
            refine V_goto (tgt := 78) dL_ends_146 (by decide) ?_
            refine V_mask (L' := [some (.ref (b 0)), some (.ref (b 1)), some (.ref (b 2)), some (.ref (b 3)), some (.ref (b 4)), some (.int (zI (al P))), some (.int (zI k)), some (.int (zI (k / pt P))), some (.int (zI (n + 1))), none]) [true, true, true, true, true, true, true, true, true, false] rfl ?_
            refine ih_78 _ (by omega) (n + 1) τ3 rfl ?_ ?_ ?_ ?_
            · omega
            · omega
            · exact hf3
            · exact StrQ.ends (κ := fun _ => τ3 4) (κ2 := fun _ => τ3 4) hk.1 hkn hn.1 (fun q a b2 => ⟨fun w => by show τ3 4 q = maxI (τ3 4 q) _; rw [w.2]; unfold maxI; rw [if_neg (by omega)], fun _ => rfl⟩) hE3
          · refine V_aload_n dL_ends_122 rfl ?_
            refine V_iload dL_ends_123 rfl ?_
            refine ll_3 ⟨by omega, by omega⟩ dL_ends_125 ?_
            refine V_eqT (y := zI (bt P (P 0 11) (P 0 12) k)) (by rw [e3, hp _ hk.1 hkn]) ?_
            refine V_aload dL_ends_126 rfl ?_
            refine V_iload dL_ends_128 rfl ?_
            refine ll_4 ⟨by omega, by omega⟩ dL_ends_130 ?_
            refine V_eqT (y := zI (τ3 4 (rdc P (k % pt P) (4 * (k / pt P) + n)))) (by rw [hits.2]) ?_
            refine V_icmp_le (tgt := 143) dL_ends_131 (by decide) ⟨⟨by omega, by omega⟩, ⟨by omega, by omega⟩⟩ (fun c_5 => ?_) (fun c_5 => ?_)
            · refine V_iinc (L' := [some (.ref (b 0)), some (.ref (b 1)), some (.ref (b 2)), some (.ref (b 3)), some (.ref (b 4)), some (.int (zI (al P))), some (.int (zI k)), some (.int (zI (k / pt P))), some (.int (zI (n + 1))), some (.int (zI (wnt P k (4 * (k / pt P) + n))))]) dL_ends_143 (by decide) rfl rfl ?_
              refine V_goto (tgt := 78) dL_ends_146 (by decide) ?_
              refine V_mask (L' := [some (.ref (b 0)), some (.ref (b 1)), some (.ref (b 2)), some (.ref (b 3)), some (.ref (b 4)), some (.int (zI (al P))), some (.int (zI k)), some (.int (zI (k / pt P))), some (.int (zI (n + 1))), none]) [true, true, true, true, true, true, true, true, true, false] rfl ?_
              refine ih_78 _ (by omega) (n + 1) τ3 rfl ?_ ?_ ?_ ?_
              · omega
              · omega
              · exact hf3
              · exact StrQ.ends (κ := fun _ => τ3 4) (κ2 := fun _ => τ3 4) hk.1 hkn hn.1 (fun q a b2 => ⟨fun w => by show τ3 4 q = maxI (τ3 4 q) _; rw [w.2]; unfold maxI; rw [if_neg (by omega)], fun _ => rfl⟩) hE3
            · refine V_aload dL_ends_134 rfl ?_
              refine V_iload dL_ends_136 rfl ?_
              refine V_aload_n dL_ends_138 rfl ?_
              refine V_iload dL_ends_139 rfl ?_
              refine ll_3 ⟨by omega, by omega⟩ dL_ends_141 ?_
              refine V_eqT (y := zI (bt P (P 0 11) (P 0 12) k)) (by rw [e3, hp _ hk.1 hkn]) ?_
              refine ls_4 ⟨by omega, by omega⟩ dL_ends_142 ?_
              refine V_iinc (L' := [some (.ref (b 0)), some (.ref (b 1)), some (.ref (b 2)), some (.ref (b 3)), some (.ref (b 4)), some (.int (zI (al P))), some (.int (zI k)), some (.int (zI (k / pt P))), some (.int (zI (n + 1))), some (.int (zI (wnt P k (4 * (k / pt P) + n))))]) dL_ends_143 (by decide) rfl rfl ?_
              refine V_goto (tgt := 78) dL_ends_146 (by decide) ?_
              refine V_mask (L' := [some (.ref (b 0)), some (.ref (b 1)), some (.ref (b 2)), some (.ref (b 3)), some (.ref (b 4)), some (.int (zI (al P))), some (.int (zI k)), some (.int (zI (k / pt P))), some (.int (zI (n + 1))), none]) [true, true, true, true, true, true, true, true, true, false] rfl ?_
              refine ih_78 _ (by omega) (n + 1) (up τ3 4 (wnt P k (4 * (k / pt P) + n)) (bt P (P 0 11) (P 0 12) k)) rfl ?_ ?_ ?_ ?_
              · omega
              · omega
              · exact hf3.upd (by decide)
              · exact StrQ.ends (κ := fun _ => τ3 4) (κ2 := fun _ => (up τ3 4 (wnt P k (4 * (k / pt P) + n)) (bt P (P 0 11) (P 0 12) k)) 4) hk.1 hkn hn.1 (fun q a b2 => ⟨fun w => by show (up τ3 4 (wnt P k (4 * (k / pt P) + n)) (bt P (P 0 11) (P 0 12) k)) 4 q = maxI (τ3 4 q) _; rw [up_eq, w.2, hits.2, fup_eq]; unfold maxI; rw [if_pos (by omega)], fun w => by show (up τ3 4 (wnt P k (4 * (k / pt P) + n)) (bt P (P 0 11) (P 0 12) k)) 4 q = τ3 4 q; rw [up_eq, fup_ne (fun z => w ⟨hip, by rw [z, hits.2]⟩)]⟩) hE3
    have seg_78 : ∀ (n : Int) (τ3 : St), (k < al P) → (0 ≤ n ∧ n ≤ P 4 (k / pt P)) → (fr [4] τ τ3) → (∀ q, 0 ≤ q → q < al P → EndS (R2 P (P 0 11) (P 0 12) k n q) (eb P (P 0 11) (P 0 12) q) (τ3 4 q)) → V K sL_ends 0 0 (lW b τ3 X) [some (.ref (b 0)), some (.ref (b 1)), some (.ref (b 2)), some (.ref (b 3)), some (.ref (b 4)), some (.int (zI (al P))), some (.int (zI k)), some (.int (zI (k / pt P))), some (.int (zI n)), none] [] 78 := fun n τ3 hkn hn hf3 hE3 => loop_78 _ n τ3 rfl hkn hn hf3 hE3
    refine V_iload dL_ends_59 rfl ?_
    refine V_iload dL_ends_61 rfl ?_
    refine V_icmp_ge (tgt := 155) dL_ends_63 (by decide) ⟨⟨by omega, by omega⟩, ⟨by omega, by omega⟩⟩ (fun c_6 => ?_) (fun c_6 => ?_)
    · refine V_vret hR rfl (Nat.le_of_ble_eq_true rfl) (Nat.le_of_ble_eq_true rfl) dL_ends_155 ?_
      exact ⟨τ1, rfl, rfl, hf, fun q a b2 => en_eq ((hEn q a b2).congr (fun x => by rw [show k = al P by omega]; exact R2_end))⟩
    · have hcs := cell_st hM hk.1 (show k < al P by omega)
      refine V_iload dL_ends_66 rfl ?_
      refine V_aload_n dL_ends_68 rfl ?_
      refine V_callSF (As := [.ref (b 0)]) hK (q_points hE b τ1 X P ⟨hM, (hL.fr hf (by decide))⟩) mokL_points w871 w872 ⟨Nat.le_of_ble_eq_true rfl, Nat.le_of_ble_eq_true rfl⟩ rfl (Nat.le_of_ble_eq_true rfl) ⟨Nat.le_of_ble_eq_true rfl, Nat.le_of_ble_eq_true rfl⟩ dL_ends_69 (fun v w p_7 => ?_)
      obtain ⟨rfl, rfl⟩ := p_7
      show V K sL_ends 0 0 (lW b τ1 X) _ [.int (zI (pt P)), .int (zI k)] 72
      refine V_idiv dL_ends_72 ⟨⟨by omega, by omega⟩, ⟨by omega, by omega⟩, by omega, by omega⟩ ?_
      refine V_istore (L' := [some (.ref (b 0)), some (.ref (b 1)), some (.ref (b 2)), some (.ref (b 3)), some (.ref (b 4)), some (.int (zI (al P))), some (.int (zI k)), some (.int (zI (k / (pt P)))), none, none]) dL_ends_73 (by decide) rfl ?_
      refine V_iconst dL_ends_75 ?_
      refine V_istore (L' := [some (.ref (b 0)), some (.ref (b 1)), some (.ref (b 2)), some (.ref (b 3)), some (.ref (b 4)), some (.int (zI (al P))), some (.int (zI k)), some (.int (zI (k / (pt P)))), some (.int (zI 0)), none]) dL_ends_76 (by decide) rfl ?_
      refine seg_78 0 τ1 ?_ ?_ ?_ ?_
      · omega
      · exact ⟨by omega, (rds_b hM hcs.1 (by omega)).1⟩
      · exact hf
      · exact hEn
  have seg_59 : ∀ (k : Int) (τ1 : St), (0 ≤ k ∧ k ≤ al P) → (fr [4] τ τ1) → (∀ q, 0 ≤ q → q < al P → EndS (R2 P (P 0 11) (P 0 12) k 0 q) (eb P (P 0 11) (P 0 12) q) (τ1 4 q)) → V K sL_ends 0 0 (lW b τ1 X) [some (.ref (b 0)), some (.ref (b 1)), some (.ref (b 2)), some (.ref (b 3)), some (.ref (b 4)), some (.int (zI (al P))), some (.int (zI k)), none, none, none] [] 59 := fun k τ1 hk hf hEn => loop_59 _ k τ1 rfl hk hf hEn
  have loop_13 : ∀ (n0 : Nat) (k : Int) (τ1 : St), (al P - k).toNat = n0 → (0 ≤ k ∧ k ≤ al P) → (fr [4] τ τ1) → (∀ j, 0 ≤ j → j < k → τ1 4 j = eb P (P 0 11) (P 0 12) j) → V K sL_ends 0 0 (lW b τ1 X) [some (.ref (b 0)), some (.ref (b 1)), some (.ref (b 2)), some (.ref (b 3)), some (.ref (b 4)), some (.int (zI (al P))), some (.int (zI k)), none, none, none] [] 13 := by
    intro n0
    induction n0 using Nat.strongRecOn with
    | _ n0 ih_13 =>
    intro k τ1 hm_13 hk hf hz
    have seg_49 : ∀ (x : Int), (k < al P) → (x = eb P (P 0 11) (P 0 12) k) → V K sL_ends 0 0 (lW b τ1 X) [some (.ref (b 0)), some (.ref (b 1)), some (.ref (b 2)), some (.ref (b 3)), some (.ref (b 4)), some (.int (zI (al P))), some (.int (zI k)), none, none, none] [.int (zI x), .int (zI k), .ref (b 4)] 49 := by
      intro x hkn hx
      refine ls_4 ⟨by omega, by omega⟩ dL_ends_49 ?_
      refine V_iinc (L' := [some (.ref (b 0)), some (.ref (b 1)), some (.ref (b 2)), some (.ref (b 3)), some (.ref (b 4)), some (.int (zI (al P))), some (.int (zI (k + 1))), none, none, none]) dL_ends_50 (by decide) rfl rfl ?_
      refine V_goto (tgt := 13) dL_ends_53 (by decide) ?_
      refine ih_13 _ (by omega) (k + 1) (up τ1 4 k x) rfl ?_ ?_ ?_
      · omega
      · exact hf.upd (by decide)
      · intro i a b2
        rw [up_eq]
        by_cases e : i = k
        · rw [e, fup_eq, hx]
        · rw [fup_ne e]; exact hz i a (by omega)
    refine V_iload dL_ends_13 rfl ?_
    refine V_iload dL_ends_15 rfl ?_
    refine V_icmp_ge (tgt := 56) dL_ends_17 (by decide) ⟨⟨by omega, by omega⟩, ⟨by omega, by omega⟩⟩ (fun c_8 => ?_) (fun c_8 => ?_)
    · refine V_iconst dL_ends_56 ?_
      refine V_istore (L' := [some (.ref (b 0)), some (.ref (b 1)), some (.ref (b 2)), some (.ref (b 3)), some (.ref (b 4)), some (.int (zI (al P))), some (.int (zI 0)), none, none, none]) dL_ends_57 (by decide) rfl ?_
      refine seg_59 0 τ1 ?_ ?_ ?_
      · omega
      · exact hf
      · intro q a b2
        rw [hz q a (by omega)]
        exact EndS.none (fun x => R2_0)
    · refine V_aload dL_ends_20 rfl ?_
      refine V_iload dL_ends_22 rfl ?_
      have hcs := cell_st hM hk.1 (show k < al P by omega)
      have h9 := las_b hM hcs.1 (show k / pt P < 4 by omega)
      have e3 : τ1 3 = τ 3 := hf 3 (by decide)
      refine V_aload_n dL_ends_24 rfl ?_
      refine V_bipush dL_ends_25 (by decide) ?_
      refine V_iload dL_ends_27 rfl ?_
      refine V_aload_n dL_ends_29 rfl ?_
      refine V_callSF (As := [.ref (b 0)]) hK (q_points hE b τ1 X P ⟨hM, (hL.fr hf (by decide))⟩) mokL_points w871 w872 ⟨Nat.le_of_ble_eq_true rfl, Nat.le_of_ble_eq_true rfl⟩ rfl (Nat.le_of_ble_eq_true rfl) ⟨Nat.le_of_ble_eq_true rfl, Nat.le_of_ble_eq_true rfl⟩ dL_ends_30 (fun v w p_9 => ?_)
      obtain ⟨rfl, rfl⟩ := p_9
      show V K sL_ends 0 0 (lW b τ1 X) _ [.int (zI (pt P)), .int (zI k), .int (zI 8), .ref (b 1), .int (zI k), .ref (b 4)] 33
      refine V_idiv dL_ends_33 ⟨⟨by omega, by omega⟩, ⟨by omega, by omega⟩, by omega, by omega⟩ ?_
      refine V_iadd dL_ends_34 ?_
      refine ll_1 ⟨by omega, by omega⟩ dL_ends_35 ?_
      refine V_eqT (y := zI (P 9 (k / pt P))) (congrArg zI ((hL.fr hf (by decide)).at hcs.1 (by omega)).2.2.1) ?_
      refine V_iconst dL_ends_36 ?_
      refine V_icmp_ne (tgt := 45) dL_ends_37 (by decide) ⟨⟨by omega, by omega⟩, ⟨by omega, by omega⟩⟩ (fun c_10 => ?_) (fun c_10 => ?_)
      · refine V_aload_n dL_ends_45 rfl ?_
        refine V_iload dL_ends_46 rfl ?_
        refine ll_3 ⟨by omega, by omega⟩ dL_ends_48 ?_
        refine seg_49 (τ1 3 k) ?_ ?_
        · omega
        · unfold eb; rw [if_pos (by omega), e3, hp _ hk.1 (by omega)]
      · refine V_iload dL_ends_40 rfl ?_
        refine V_goto (tgt := 49) dL_ends_42 (by decide) ?_
        refine seg_49 (al P) ?_ ?_
        · omega
        · unfold eb; rw [if_neg (by omega)]
  have seg_13 : ∀ (k : Int) (τ1 : St), (0 ≤ k ∧ k ≤ al P) → (fr [4] τ τ1) → (∀ j, 0 ≤ j → j < k → τ1 4 j = eb P (P 0 11) (P 0 12) j) → V K sL_ends 0 0 (lW b τ1 X) [some (.ref (b 0)), some (.ref (b 1)), some (.ref (b 2)), some (.ref (b 3)), some (.ref (b 4)), some (.int (zI (al P))), some (.int (zI k)), none, none, none] [] 13 := fun k τ1 hk hf hz => loop_13 _ k τ1 rfl hk hf hz
  refine V_aload_n dL_ends_0 rfl ?_
  refine V_iconst dL_ends_1 ?_
  refine ll_0 ⟨by omega, by omega⟩ dL_ends_2 ?_
  refine V_eqT (y := zI (P 0 2)) (congrArg zI (LR.g2 hL)) ?_
  refine V_aload_n dL_ends_3 rfl ?_
  refine V_callSF (As := [.ref (b 0)]) hK (q_points hE b τ X P ⟨hM, hL⟩) mokL_points w871 w872 ⟨Nat.le_of_ble_eq_true rfl, Nat.le_of_ble_eq_true rfl⟩ rfl (Nat.le_of_ble_eq_true rfl) ⟨Nat.le_of_ble_eq_true rfl, Nat.le_of_ble_eq_true rfl⟩ dL_ends_4 (fun v w p_11 => ?_)
  obtain ⟨rfl, rfl⟩ := p_11
  show V K sL_ends 0 0 (lW b τ X) _ [.int (zI (pt P)), .int (zI (P 0 2))] 7
  refine V_imul dL_ends_7 ?_
  refine V_eqT (y := zI (al P)) (rfl) ?_
  refine V_istore (L' := [some (.ref (b 0)), some (.ref (b 1)), some (.ref (b 2)), some (.ref (b 3)), some (.ref (b 4)), some (.int (zI (al P))), none, none, none, none]) dL_ends_8 (by decide) rfl ?_
  refine V_iconst dL_ends_10 ?_
  refine V_istore (L' := [some (.ref (b 0)), some (.ref (b 1)), some (.ref (b 2)), some (.ref (b 3)), some (.ref (b 4)), some (.int (zI (al P))), some (.int (zI 0)), none, none, none]) dL_ends_11 (by decide) rfl ?_
  refine seg_13 0 τ ?_ ?_ ?_
  · omega
  · exact fr.rf _ _
  · intro j a b; omega

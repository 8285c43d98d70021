set_option maxRecDepth 100000 in
set_option maxHeartbeats 4000000 in
theorem c_isStep {E : EV} (hE : Stb E) (a : Nat → Nat) (σ : St) (k0 : Int) (P : St) (hp : MI P ∧ PR P σ ∧ iR k0) : MC E yX11_isStep sX11_isStep [.ref (a 0), .int (zI k0)] (mW a σ) (fun v w => v = some (.int (zI (bz (decide (0 ≤ k0 ∧ k0 < al P))))) ∧ w = mW a σ) := by
  refine MC.of hE [some (.ref (a 0)), some (.int (zI k0))] 0 rfl rfl rfl (by simp [Value.category]) (Nat.le_of_ble_eq_true rfl) (fun K hK hR => ?_)
  obtain ⟨hM, hP, hp⟩ := hp
  have e0 := hP 0 (by decide) (by decide)
  have f0 : ∀ i, σ 0 i = P 0 i := fun i => by rw [e0]
  have mR := hM.1
  have mC := hM.2.1
  have mN := hM.2.2.1
  have mp := hM.pts
  have ma := hM.als
  have gR := f0 0
  have gC := f0 1
  have gN := f0 2
  obtain ⟨h1, h2⟩ := hp
  refine V_iload_n dX11_isStep_0 rfl ?_
  refine V_iconst dX11_isStep_1 ?_
  refine V_aload_n dX11_isStep_2 rfl ?_
  refine V_callVF (As := []) (b := a 0) (hb := (show (mW a σ)[0]? = some (a 0, .inr (10, mF a σ)) from rfl)) (hc := (show vwCl[10]? = some (RX11, TX11, 30) from rfl)) hK (c_all hE a σ P ⟨hM, hP⟩) mokX11_all w1211 w1213 wps1_13 ⟨Nat.le_of_ble_eq_true rfl, Nat.le_of_ble_eq_true rfl⟩ rfl (Nat.le_of_ble_eq_true rfl) ⟨Nat.le_refl _, Nat.le_refl _⟩ dX11_isStep_3 (fun v w p_1 => ?_)
  obtain ⟨rfl, rfl⟩ := p_1
  show V K sX11_isStep 0 0 (mW a σ) _ [.int (zI (al P)), .int (zI 0), .int (zI k0)] 6
  refine V_iconst dX11_isStep_6 ?_
  refine V_isub dX11_isStep_7 ?_
  refine V_callSE (As := [.int (zI k0), .int (zI 0), .int (zI ((al P) - 1))]) hK (c_isIn hE k0 0 ((al P) - 1) (by refine ⟨?_, ?_, ?_⟩ <;> (try refine ⟨?_, ?_⟩) <;> omega)) mokX11_isIn w1169 w1170 ⟨Nat.le_of_ble_eq_true rfl, Nat.le_of_ble_eq_true rfl⟩ rfl (Nat.le_of_ble_eq_true rfl) ⟨Nat.le_refl _, Nat.le_refl _⟩ dX11_isStep_8 (fun v w p_2 => ?_)
  obtain ⟨rfl, rfl⟩ := p_2
  show V K sX11_isStep 0 0 (mW a σ) _ [.int (zI (bz (decide (0 ≤ k0 ∧ k0 ≤ ((al P) - 1)))))] 11
  refine V_zret hR rfl (Nat.le_refl _) (Nat.le_refl _) dX11_isStep_11 ?_
  exact ⟨bzD (by omega), rfl⟩
set_option maxRecDepth 100000 in
set_option maxHeartbeats 4000000 in
theorem c_isModulus {E : EV} (hE : Stb E) (m : Int) (hp : iR m) : MC E yX11_isModulus sX11_isModulus [.int (zI m)] [] (fun v w => v = some (.int (zI (bz (decide (1 ≤ m ∧ m ≤ 99))))) ∧ w = []) := by
  refine MC.of hE [some (.int (zI m))] 0 rfl rfl rfl (by simp [Value.category]) (Nat.le_of_ble_eq_true rfl) (fun K hK hR => ?_)
  obtain ⟨h1, h2⟩ := hp
  refine V_iload_n dX11_isModulus_0 rfl ?_
  refine V_iconst dX11_isModulus_1 ?_
  refine V_bipush dX11_isModulus_2 (by decide) ?_
  refine V_callSE (As := [.int (zI m), .int (zI 1), .int (zI 99)]) hK (c_isIn hE m 1 99 (by refine ⟨?_, ?_, ?_⟩ <;> (try refine ⟨?_, ?_⟩) <;> omega)) mokX11_isIn w1169 w1170 ⟨Nat.le_of_ble_eq_true rfl, Nat.le_of_ble_eq_true rfl⟩ rfl (Nat.le_of_ble_eq_true rfl) ⟨Nat.le_refl _, Nat.le_refl _⟩ dX11_isModulus_4 (fun v w p_1 => ?_)
  obtain ⟨rfl, rfl⟩ := p_1
  show V K sX11_isModulus 0 0 [] _ [.int (zI (bz (decide (1 ≤ m ∧ m ≤ 99))))] 7
  refine V_zret hR rfl (Nat.le_refl _) (Nat.le_refl _) dX11_isModulus_7 ?_
  exact ⟨rfl, rfl⟩
set_option maxRecDepth 100000 in
set_option maxHeartbeats 4000000 in
theorem c_areWeights {E : EV} (hE : Stb E) (v1 : Int) (v2 : Int) (hp : iR v1 ∧ iR v2) : MC E yX11_areWeights sX11_areWeights [.int (zI v1), .int (zI v2)] [] (fun v w => v = some (.int (zI (bz (decide ((0 ≤ v1 ∧ v1 ≤ 9) ∧ (0 ≤ v2 ∧ v2 ≤ 9)))))) ∧ w = []) := by
  refine MC.of hE [some (.int (zI v1)), some (.int (zI v2))] 0 rfl rfl rfl (by simp [Value.category]) (Nat.le_of_ble_eq_true rfl) (fun K hK hR => ?_)
  obtain ⟨⟨h1, h2⟩, h3, h4⟩ := hp
  refine V_iload_n dX11_areWeights_0 rfl ?_
  refine V_iconst dX11_areWeights_1 ?_
  refine V_bipush dX11_areWeights_2 (by decide) ?_
  refine V_callSE (As := [.int (zI v1), .int (zI 0), .int (zI 9)]) hK (c_isIn hE v1 0 9 (by refine ⟨?_, ?_, ?_⟩ <;> (try refine ⟨?_, ?_⟩) <;> omega)) mokX11_isIn w1169 w1170 ⟨Nat.le_of_ble_eq_true rfl, Nat.le_of_ble_eq_true rfl⟩ rfl (Nat.le_of_ble_eq_true rfl) ⟨Nat.le_refl _, Nat.le_refl _⟩ dX11_areWeights_4 (fun v w p_1 => ?_)
  obtain ⟨rfl, rfl⟩ := p_1
  show V K sX11_areWeights 0 0 [] _ [.int (zI (bz (decide (0 ≤ v1 ∧ v1 ≤ 9))))] 7
  refine V_ifd_eq (tgt := 24) dX11_areWeights_7 (by decide) (fun c_2 => ?_) (fun c_2 => ?_)
  · refine V_iconst dX11_areWeights_24 ?_
    show V K sX11_areWeights 0 0 [] _ [.int (zI (bz false))] 25
    refine V_zret hR rfl (Nat.le_refl _) (Nat.le_refl _) dX11_areWeights_25 ?_
    exact ⟨bzF (by omega), rfl⟩
  · refine V_iload_n dX11_areWeights_10 rfl ?_
    refine V_iconst dX11_areWeights_11 ?_
    refine V_bipush dX11_areWeights_12 (by decide) ?_
    refine V_callSE (As := [.int (zI v2), .int (zI 0), .int (zI 9)]) hK (c_isIn hE v2 0 9 (by refine ⟨?_, ?_, ?_⟩ <;> (try refine ⟨?_, ?_⟩) <;> omega)) mokX11_isIn w1169 w1170 ⟨Nat.le_of_ble_eq_true rfl, Nat.le_of_ble_eq_true rfl⟩ rfl (Nat.le_of_ble_eq_true rfl) ⟨Nat.le_refl _, Nat.le_refl _⟩ dX11_areWeights_14 (fun v w p_3 => ?_)
    obtain ⟨rfl, rfl⟩ := p_3
    show V K sX11_areWeights 0 0 [] _ [.int (zI (bz (decide (0 ≤ v2 ∧ v2 ≤ 9))))] 17
    refine V_ifd_eq (tgt := 24) dX11_areWeights_17 (by decide) (fun c_4 => ?_) (fun c_4 => ?_)
    · refine V_iconst dX11_areWeights_24 ?_
      show V K sX11_areWeights 0 0 [] _ [.int (zI (bz false))] 25
      refine V_zret hR rfl (Nat.le_refl _) (Nat.le_refl _) dX11_areWeights_25 ?_
      exact ⟨bzF (by omega), rfl⟩
    · refine V_iconst dX11_areWeights_20 ?_
      refine V_goto (tgt := 25) dX11_areWeights_21 (by decide) ?_
      show V K sX11_areWeights 0 0 [] _ [.int (zI (bz true))] 25
      refine V_zret hR rfl (Nat.le_refl _) (Nat.le_refl _) dX11_areWeights_25 ?_
      exact ⟨bzT (by omega), rfl⟩
set_option maxRecDepth 100000 in
set_option maxHeartbeats 4000000 in
theorem c_dropReads {E : EV} (hE : Stb E) (a : Nat → Nat) (σ : St) (s0 : Int) (P : St) (hp : MI P ∧ PR P σ ∧ iR s0) : MC E yX11_dropReads sX11_dropReads [.ref (a 0), .int (zI s0)] (mW a σ) (fun v w => ∃ σ2 : St, v = some (.int (zI ((sp_dropReads P s0).2.1))) ∧ w = mW a σ2 ∧ (σ2 1 29 = (sp_dropReads P s0).1) ∧ (PR (sp_dropReads P s0).2.2 σ2)) := by
  refine MC.of hE [some (.ref (a 0)), some (.int (zI s0)), none] 1 rfl rfl rfl (by simp [Value.category]) (Nat.le_of_ble_eq_true rfl) (fun K hK hR => ?_)
  obtain ⟨hM, hP, hp⟩ := hp
  have e0 := hP 0 (by decide) (by decide)
  have f0 : ∀ i, σ 0 i = P 0 i := fun i => by rw [e0]
  have mR := hM.1
  have mC := hM.2.1
  have mN := hM.2.2.1
  have mp := hM.pts
  have ma := hM.als
  have gR := f0 0
  have gC := f0 1
  have gN := f0 2
  have hr := hp
  obtain ⟨r0a, r0b⟩ : iR s0 := hp
  refine V_aload_n dX11_dropReads_0 rfl ?_
  refine V_aload_n dX11_dropReads_1 rfl ?_
  refine V_iload_n dX11_dropReads_2 rfl ?_
  refine V_callVF (As := [.int (zI s0)]) (b := a 0) (hb := (show (mW a σ)[0]? = some (a 0, .inr (10, mF a σ)) from rfl)) (hc := (show vwCl[10]? = some (RX11, TX11, 30) from rfl)) hK (c_is hE a σ s0 P ⟨hM, hP, by (try refine ⟨?_, ?_⟩) <;> omega⟩) mokX11_is w1180 w1182 wps1_10 ⟨Nat.le_of_ble_eq_true rfl, Nat.le_of_ble_eq_true rfl⟩ rfl (Nat.le_of_ble_eq_true rfl) ⟨Nat.le_refl _, Nat.le_refl _⟩ dX11_dropReads_3 (fun v w p_1 => ?_)
  obtain ⟨rfl, rfl⟩ := p_1
  show V K sX11_dropReads 0 0 (mW a σ) _ [.int (zI (bz (decide (0 ≤ s0 ∧ s0 < P 0 2)))), .ref (a 0)] 6
  refine V_ifd_eq (tgt := 13) dX11_dropReads_6 (by decide) (fun c_2 => ?_) (fun c_2 => ?_)
  · refine V_iconst dX11_dropReads_13 ?_
    refine V_callVF (As := [.int (zI 1)]) (b := a 0) (hb := (show (mW a σ)[0]? = some (a 0, .inr (10, mF a σ)) from rfl)) (hc := (show vwCl[10]? = some (RX11, TX11, 30) from rfl)) hK (c_fails hE a σ 1 ⟨by omega, by omega⟩) mokX11_fails w1172 w1174 wps1_9 ⟨Nat.le_of_ble_eq_true rfl, Nat.le_of_ble_eq_true rfl⟩ rfl (Nat.le_of_ble_eq_true rfl) ⟨Nat.le_refl _, Nat.le_refl _⟩ dX11_dropReads_14 (fun v w p_3 => ?_)
    obtain ⟨rfl, rfl⟩ := p_3
    show V K sX11_dropReads 0 0 (mW a (up σ 1 29 1)) _ [.int (zI (bz (decide (0 < 1))))] 17
    refine V_ifd_eq (tgt := 22) dX11_dropReads_17 (by decide) (fun h => absurd (by decide) h) (fun _ => ?_)
    refine V_iconst dX11_dropReads_20 ?_
    refine V_iret hR rfl (Nat.le_refl _) (Nat.le_refl _) dX11_dropReads_21 ?_
    exact pub (gd_f c_2) rfl rfl ((hP).up (by decide))
  · refine V_iconst dX11_dropReads_9 ?_
    refine V_goto (tgt := 14) dX11_dropReads_10 (by decide) ?_
    refine V_callVF (As := [.int (zI 0)]) (b := a 0) (hb := (show (mW a σ)[0]? = some (a 0, .inr (10, mF a σ)) from rfl)) (hc := (show vwCl[10]? = some (RX11, TX11, 30) from rfl)) hK (c_fails hE a σ 0 ⟨by omega, by omega⟩) mokX11_fails w1172 w1174 wps1_9 ⟨Nat.le_of_ble_eq_true rfl, Nat.le_of_ble_eq_true rfl⟩ rfl (Nat.le_of_ble_eq_true rfl) ⟨Nat.le_refl _, Nat.le_refl _⟩ dX11_dropReads_14 (fun v w p_5 => ?_)
    obtain ⟨rfl, rfl⟩ := p_5
    show V K sX11_dropReads 0 0 (mW a (up σ 1 29 0)) _ [.int (zI (bz (decide (0 < 0))))] 17
    refine V_ifd_eq (tgt := 22) dX11_dropReads_17 (by decide) (fun _ => ?_) (fun h => absurd h (by decide))
    refine V_aload_n dX11_dropReads_22 rfl ?_
    refine mg_reads rfl dX11_dropReads_23 ?_
    refine V_iload_n dX11_dropReads_26 rfl ?_
    refine ml_reads ⟨by omega, by omega⟩ dX11_dropReads_27 ?_
    refine V_istore_n (L' := [some (.ref (a 0)), some (.int (zI s0)), some (.int (zI ((up σ 1 29 0) 4 s0)))]) dX11_dropReads_28 (by decide) rfl ?_
    refine V_aload_n dX11_dropReads_29 rfl ?_
    refine mg_reads rfl dX11_dropReads_30 ?_
    refine V_iload_n dX11_dropReads_33 rfl ?_
    refine V_iconst dX11_dropReads_34 ?_
    refine ms_reads ⟨by omega, by omega⟩ dX11_dropReads_35 ?_
    refine V_iload_n dX11_dropReads_36 rfl ?_
    refine V_iret hR rfl (Nat.le_refl _) (Nat.le_refl _) dX11_dropReads_37 ?_
    exact pub (gd_t c_2) (ziE (show σ 4 s0 = P 4 s0 by rw [hP 4 (by decide) (by decide)])) rfl ((((hP).up (by decide))).upP _ _ _)
set_option maxRecDepth 100000 in
set_option maxHeartbeats 4000000 in
theorem c_setLasting {E : EV} (hE : Stb E) (a : Nat → Nat) (σ : St) (s0 : Int) (v0 : Int) (P : St) (hp : MI P ∧ PR P σ ∧ iR s0 ∧ (v0 = 0 ∨ v0 = 1)) : MC E yX11_setLasting sX11_setLasting [.ref (a 0), .int (zI s0), .int (zI v0)] (mW a σ) (fun v w => ∃ σ2 : St, v = some (.int (zI ((sp_setLasting P s0 v0).2.1))) ∧ w = mW a σ2 ∧ (σ2 1 29 = (sp_setLasting P s0 v0).1) ∧ (PR (sp_setLasting P s0 v0).2.2 σ2)) := by
  refine MC.of hE [some (.ref (a 0)), some (.int (zI s0)), some (.int (zI v0)), none] 1 rfl rfl rfl (by simp [Value.category]) (Nat.le_of_ble_eq_true rfl) (fun K hK hR => ?_)
  obtain ⟨hM, hP, hp⟩ := hp
  have e0 := hP 0 (by decide) (by decide)
  have f0 : ∀ i, σ 0 i = P 0 i := fun i => by rw [e0]
  have mR := hM.1
  have mC := hM.2.1
  have mN := hM.2.2.1
  have mp := hM.pts
  have ma := hM.als
  have gR := f0 0
  have gC := f0 1
  have gN := f0 2
  have hr := hp
  obtain ⟨r0a, r0b⟩ : iR s0 := hp.1
  have hv := hp.2
  refine V_aload_n dX11_setLasting_0 rfl ?_
  refine V_aload_n dX11_setLasting_1 rfl ?_
  refine V_iload_n dX11_setLasting_2 rfl ?_
  refine V_callVF (As := [.int (zI s0)]) (b := a 0) (hb := (show (mW a σ)[0]? = some (a 0, .inr (10, mF a σ)) from rfl)) (hc := (show vwCl[10]? = some (RX11, TX11, 30) from rfl)) hK (c_is hE a σ s0 P ⟨hM, hP, by (try refine ⟨?_, ?_⟩) <;> omega⟩) mokX11_is w1180 w1182 wps1_10 ⟨Nat.le_of_ble_eq_true rfl, Nat.le_of_ble_eq_true rfl⟩ rfl (Nat.le_of_ble_eq_true rfl) ⟨Nat.le_refl _, Nat.le_refl _⟩ dX11_setLasting_3 (fun v w p_1 => ?_)
  obtain ⟨rfl, rfl⟩ := p_1
  show V K sX11_setLasting 0 0 (mW a σ) _ [.int (zI (bz (decide (0 ≤ s0 ∧ s0 < P 0 2)))), .ref (a 0)] 6
  refine V_ifd_eq (tgt := 13) dX11_setLasting_6 (by decide) (fun c_2 => ?_) (fun c_2 => ?_)
  · refine V_iconst dX11_setLasting_13 ?_
    refine V_callVF (As := [.int (zI 1)]) (b := a 0) (hb := (show (mW a σ)[0]? = some (a 0, .inr (10, mF a σ)) from rfl)) (hc := (show vwCl[10]? = some (RX11, TX11, 30) from rfl)) hK (c_fails hE a σ 1 ⟨by omega, by omega⟩) mokX11_fails w1172 w1174 wps1_9 ⟨Nat.le_of_ble_eq_true rfl, Nat.le_of_ble_eq_true rfl⟩ rfl (Nat.le_of_ble_eq_true rfl) ⟨Nat.le_refl _, Nat.le_refl _⟩ dX11_setLasting_14 (fun v w p_3 => ?_)
    obtain ⟨rfl, rfl⟩ := p_3
    show V K sX11_setLasting 0 0 (mW a (up σ 1 29 1)) _ [.int (zI (bz (decide (0 < 1))))] 17
    refine V_ifd_eq (tgt := 22) dX11_setLasting_17 (by decide) (fun h => absurd (by decide) h) (fun _ => ?_)
    refine V_iconst dX11_setLasting_20 ?_
    show V K sX11_setLasting 0 0 (mW a (up σ 1 29 1)) _ [.int (zI (bz false))] 21
    refine V_zret hR rfl (Nat.le_refl _) (Nat.le_refl _) dX11_setLasting_21 ?_
    exact pub (gd_f c_2) rfl rfl ((hP).up (by decide))
  · refine V_iconst dX11_setLasting_9 ?_
    refine V_goto (tgt := 14) dX11_setLasting_10 (by decide) ?_
    refine V_callVF (As := [.int (zI 0)]) (b := a 0) (hb := (show (mW a σ)[0]? = some (a 0, .inr (10, mF a σ)) from rfl)) (hc := (show vwCl[10]? = some (RX11, TX11, 30) from rfl)) hK (c_fails hE a σ 0 ⟨by omega, by omega⟩) mokX11_fails w1172 w1174 wps1_9 ⟨Nat.le_of_ble_eq_true rfl, Nat.le_of_ble_eq_true rfl⟩ rfl (Nat.le_of_ble_eq_true rfl) ⟨Nat.le_refl _, Nat.le_refl _⟩ dX11_setLasting_14 (fun v w p_5 => ?_)
    obtain ⟨rfl, rfl⟩ := p_5
    show V K sX11_setLasting 0 0 (mW a (up σ 1 29 0)) _ [.int (zI (bz (decide (0 < 0))))] 17
    refine V_ifd_eq (tgt := 22) dX11_setLasting_17 (by decide) (fun _ => ?_) (fun h => absurd h (by decide))
    refine V_aload_n dX11_setLasting_22 rfl ?_
    refine mg_isLasting rfl dX11_setLasting_23 ?_
    refine V_iload_n dX11_setLasting_26 rfl ?_
    refine ml_isLasting ⟨by omega, by omega⟩ dX11_setLasting_27 ?_
    refine V_istore_n (L' := [some (.ref (a 0)), some (.int (zI s0)), some (.int (zI v0)), some (.int (zI ((up σ 1 29 0) 9 s0)))]) dX11_setLasting_28 (by decide) rfl ?_
    refine V_aload_n dX11_setLasting_29 rfl ?_
    refine mg_isLasting rfl dX11_setLasting_30 ?_
    refine V_iload_n dX11_setLasting_33 rfl ?_
    refine V_iload_n dX11_setLasting_34 rfl ?_
    refine ms_isLasting ⟨by omega, by omega⟩ hv dX11_setLasting_35 ?_
    refine V_iload_n dX11_setLasting_36 rfl ?_
    refine V_zretI hR rfl ((by have := (hM.2.2.2.2.2.1 s0 (by omega) (by omega)).2.2.1; show σ 9 s0 = 0 ∨ σ 9 s0 = 1; rw [hP 9 (by decide) (by decide)]; exact this)) (Nat.le_refl _) (Nat.le_refl _) dX11_setLasting_37 ?_
    exact pub (gd_t c_2) (ziE (show σ 9 s0 = P 9 s0 by rw [hP 9 (by decide) (by decide)])) rfl ((((hP).up (by decide))).upP _ _ _)
set_option maxRecDepth 100000 in
set_option maxHeartbeats 4000000 in
theorem c_setField {E : EV} (hE : Stb E) (a : Nat → Nat) (σ : St) (h0 : Int) (w0 : Int) (P : St) (hp : MI P ∧ PR P σ ∧ iR h0 ∧ iR w0) : MC E yX11_setField sX11_setField [.ref (a 0), .int (zI h0), .int (zI w0)] (mW a σ) (fun v w => ∃ σ2 : St, v = some (.int (zI ((sp_setField P h0 w0).2.1))) ∧ w = mW a σ2 ∧ (σ2 1 29 = (sp_setField P h0 w0).1) ∧ (PR (sp_setField P h0 w0).2.2 σ2)) := by
  refine MC.of hE [some (.ref (a 0)), some (.int (zI h0)), some (.int (zI w0))] 0 rfl rfl rfl (by simp [Value.category]) (Nat.le_of_ble_eq_true rfl) (fun K hK hR => ?_)
  obtain ⟨hM, hP, hp⟩ := hp
  have e0 := hP 0 (by decide) (by decide)
  have f0 : ∀ i, σ 0 i = P 0 i := fun i => by rw [e0]
  have mR := hM.1
  have mC := hM.2.1
  have mN := hM.2.2.1
  have mp := hM.pts
  have ma := hM.als
  have gR := f0 0
  have gC := f0 1
  have gN := f0 2
  have hr := hp
  obtain ⟨r0a, r0b⟩ : iR h0 := hp.1
  obtain ⟨r1a, r1b⟩ : iR w0 := hp.2
  refine V_aload_n dX11_setField_0 rfl ?_
  refine V_iload_n dX11_setField_1 rfl ?_
  refine V_iconst dX11_setField_2 ?_
  refine V_bipush dX11_setField_3 (by decide) ?_
  refine V_callSE (As := [.int (zI h0), .int (zI 1), .int (zI 8)]) hK (c_isIn hE h0 1 8 (by refine ⟨?_, ?_, ?_⟩ <;> (try refine ⟨?_, ?_⟩) <;> omega)) mokX11_isIn w1169 w1170 ⟨Nat.le_of_ble_eq_true rfl, Nat.le_of_ble_eq_true rfl⟩ rfl (Nat.le_of_ble_eq_true rfl) ⟨Nat.le_refl _, Nat.le_refl _⟩ dX11_setField_5 (fun v w p_1 => ?_)
  obtain ⟨rfl, rfl⟩ := p_1
  show V K sX11_setField 0 0 (mW a σ) _ [.int (zI (bz (decide (1 ≤ h0 ∧ h0 ≤ 8)))), .ref (a 0)] 8
  refine V_ifd_eq (tgt := 25) dX11_setField_8 (by decide) (fun c_2 => ?_) (fun c_2 => ?_)
  · refine V_iconst dX11_setField_25 ?_
    refine V_callVF (As := [.int (zI 1)]) (b := a 0) (hb := (show (mW a σ)[0]? = some (a 0, .inr (10, mF a σ)) from rfl)) (hc := (show vwCl[10]? = some (RX11, TX11, 30) from rfl)) hK (c_fails hE a σ 1 ⟨by omega, by omega⟩) mokX11_fails w1172 w1174 wps1_9 ⟨Nat.le_of_ble_eq_true rfl, Nat.le_of_ble_eq_true rfl⟩ rfl (Nat.le_of_ble_eq_true rfl) ⟨Nat.le_refl _, Nat.le_refl _⟩ dX11_setField_26 (fun v w p_3 => ?_)
    obtain ⟨rfl, rfl⟩ := p_3
    show V K sX11_setField 0 0 (mW a (up σ 1 29 1)) _ [.int (zI (bz (decide (0 < 1))))] 29
    refine V_ifd_eq (tgt := 34) dX11_setField_29 (by decide) (fun h => absurd (by decide) h) (fun _ => ?_)
    refine V_iconst dX11_setField_32 ?_
    refine V_iret hR rfl (Nat.le_refl _) (Nat.le_refl _) dX11_setField_33 ?_
    exact pub (gd_f (fun h => c_2 h.1)) rfl rfl ((hP).up (by decide))
  · refine V_iload_n dX11_setField_11 rfl ?_
    refine V_iconst dX11_setField_12 ?_
    refine V_bipush dX11_setField_13 (by decide) ?_
    refine V_callSE (As := [.int (zI w0), .int (zI 1), .int (zI 8)]) hK (c_isIn hE w0 1 8 (by refine ⟨?_, ?_, ?_⟩ <;> (try refine ⟨?_, ?_⟩) <;> omega)) mokX11_isIn w1169 w1170 ⟨Nat.le_of_ble_eq_true rfl, Nat.le_of_ble_eq_true rfl⟩ rfl (Nat.le_of_ble_eq_true rfl) ⟨Nat.le_refl _, Nat.le_refl _⟩ dX11_setField_15 (fun v w p_5 => ?_)
    obtain ⟨rfl, rfl⟩ := p_5
    show V K sX11_setField 0 0 (mW a σ) _ [.int (zI (bz (decide (1 ≤ w0 ∧ w0 ≤ 8)))), .ref (a 0)] 18
    refine V_ifd_eq (tgt := 25) dX11_setField_18 (by decide) (fun c_6 => ?_) (fun c_6 => ?_)
    · refine V_iconst dX11_setField_25 ?_
      refine V_callVF (As := [.int (zI 1)]) (b := a 0) (hb := (show (mW a σ)[0]? = some (a 0, .inr (10, mF a σ)) from rfl)) (hc := (show vwCl[10]? = some (RX11, TX11, 30) from rfl)) hK (c_fails hE a σ 1 ⟨by omega, by omega⟩) mokX11_fails w1172 w1174 wps1_9 ⟨Nat.le_of_ble_eq_true rfl, Nat.le_of_ble_eq_true rfl⟩ rfl (Nat.le_of_ble_eq_true rfl) ⟨Nat.le_refl _, Nat.le_refl _⟩ dX11_setField_26 (fun v w p_7 => ?_)
      obtain ⟨rfl, rfl⟩ := p_7
      show V K sX11_setField 0 0 (mW a (up σ 1 29 1)) _ [.int (zI (bz (decide (0 < 1))))] 29
      refine V_ifd_eq (tgt := 34) dX11_setField_29 (by decide) (fun h => absurd (by decide) h) (fun _ => ?_)
      refine V_iconst dX11_setField_32 ?_
      refine V_iret hR rfl (Nat.le_refl _) (Nat.le_refl _) dX11_setField_33 ?_
      exact pub (gd_f (fun h => c_6 h.2)) rfl rfl ((hP).up (by decide))
    · refine V_iconst dX11_setField_21 ?_
      refine V_goto (tgt := 26) dX11_setField_22 (by decide) ?_
      refine V_callVF (As := [.int (zI 0)]) (b := a 0) (hb := (show (mW a σ)[0]? = some (a 0, .inr (10, mF a σ)) from rfl)) (hc := (show vwCl[10]? = some (RX11, TX11, 30) from rfl)) hK (c_fails hE a σ 0 ⟨by omega, by omega⟩) mokX11_fails w1172 w1174 wps1_9 ⟨Nat.le_of_ble_eq_true rfl, Nat.le_of_ble_eq_true rfl⟩ rfl (Nat.le_of_ble_eq_true rfl) ⟨Nat.le_refl _, Nat.le_refl _⟩ dX11_setField_26 (fun v w p_9 => ?_)
      obtain ⟨rfl, rfl⟩ := p_9
      show V K sX11_setField 0 0 (mW a (up σ 1 29 0)) _ [.int (zI (bz (decide (0 < 0))))] 29
      refine V_ifd_eq (tgt := 34) dX11_setField_29 (by decide) (fun _ => ?_) (fun h => absurd h (by decide))
      refine V_aload_n dX11_setField_34 rfl ?_
      refine V_iload_n dX11_setField_35 rfl ?_
      refine mp_rows rfl dX11_setField_36 ?_
      refine V_aload_n dX11_setField_39 rfl ?_
      refine V_iload_n dX11_setField_40 rfl ?_
      refine mp_columns rfl dX11_setField_41 ?_
      refine V_aload_n dX11_setField_44 rfl ?_
      refine mg_rows rfl dX11_setField_45 ?_
      refine V_aload_n dX11_setField_48 rfl ?_
      refine mg_columns rfl dX11_setField_49 ?_
      refine V_imul dX11_setField_52 ?_
      refine V_iret hR rfl (Nat.le_refl _) (Nat.le_refl _) dX11_setField_53 ?_
      exact pub (gd_t ⟨c_2, c_6⟩) rfl rfl ((((((hP).up (by decide))).upP _ _ _)).upP _ _ _)
set_option maxRecDepth 100000 in
set_option maxHeartbeats 4000000 in
theorem c_setSchedule {E : EV} (hE : Stb E) (a : Nat → Nat) (σ : St) (v1 : Int) (v2 : Int) (P : St) (hp : MI P ∧ PR P σ ∧ iR v1 ∧ iR v2) : MC E yX11_setSchedule sX11_setSchedule [.ref (a 0), .int (zI v1), .int (zI v2)] (mW a σ) (fun v w => ∃ σ2 : St, v = some (.int (zI ((sp_setSchedule P v1 v2).2.1))) ∧ w = mW a σ2 ∧ (σ2 1 29 = (sp_setSchedule P v1 v2).1) ∧ (PR (sp_setSchedule P v1 v2).2.2 σ2)) := by
  refine MC.of hE [some (.ref (a 0)), some (.int (zI v1)), some (.int (zI v2))] 0 rfl rfl rfl (by simp [Value.category]) (Nat.le_of_ble_eq_true rfl) (fun K hK hR => ?_)
  obtain ⟨hM, hP, hp⟩ := hp
  have e0 := hP 0 (by decide) (by decide)
  have f0 : ∀ i, σ 0 i = P 0 i := fun i => by rw [e0]
  have mR := hM.1
  have mC := hM.2.1
  have mN := hM.2.2.1
  have mp := hM.pts
  have ma := hM.als
  have gR := f0 0
  have gC := f0 1
  have gN := f0 2
  have hr := hp
  obtain ⟨r0a, r0b⟩ : iR v1 := hp.1
  obtain ⟨r1a, r1b⟩ : iR v2 := hp.2
  refine V_aload_n dX11_setSchedule_0 rfl ?_
  refine V_iload_n dX11_setSchedule_1 rfl ?_
  refine V_iload_n dX11_setSchedule_2 rfl ?_
  refine V_callSE (As := [.int (zI v1), .int (zI v2)]) hK (c_areWeights hE v1 v2 (by refine ⟨?_, ?_⟩ <;> (try refine ⟨?_, ?_⟩) <;> omega)) mokX11_areWeights w1200 w1201 ⟨Nat.le_of_ble_eq_true rfl, Nat.le_of_ble_eq_true rfl⟩ rfl (Nat.le_of_ble_eq_true rfl) ⟨Nat.le_refl _, Nat.le_refl _⟩ dX11_setSchedule_3 (fun v w p_1 => ?_)
  obtain ⟨rfl, rfl⟩ := p_1
  show V K sX11_setSchedule 0 0 (mW a σ) _ [.int (zI (bz (decide ((0 ≤ v1 ∧ v1 ≤ 9) ∧ (0 ≤ v2 ∧ v2 ≤ 9))))), .ref (a 0)] 6
  refine V_ifd_eq (tgt := 13) dX11_setSchedule_6 (by decide) (fun c_2 => ?_) (fun c_2 => ?_)
  · refine V_iconst dX11_setSchedule_13 ?_
    refine V_callVF (As := [.int (zI 1)]) (b := a 0) (hb := (show (mW a σ)[0]? = some (a 0, .inr (10, mF a σ)) from rfl)) (hc := (show vwCl[10]? = some (RX11, TX11, 30) from rfl)) hK (c_fails hE a σ 1 ⟨by omega, by omega⟩) mokX11_fails w1172 w1174 wps1_9 ⟨Nat.le_of_ble_eq_true rfl, Nat.le_of_ble_eq_true rfl⟩ rfl (Nat.le_of_ble_eq_true rfl) ⟨Nat.le_refl _, Nat.le_refl _⟩ dX11_setSchedule_14 (fun v w p_3 => ?_)
    obtain ⟨rfl, rfl⟩ := p_3
    show V K sX11_setSchedule 0 0 (mW a (up σ 1 29 1)) _ [.int (zI (bz (decide (0 < 1))))] 17
    refine V_ifd_eq (tgt := 22) dX11_setSchedule_17 (by decide) (fun h => absurd (by decide) h) (fun _ => ?_)
    refine V_iconst dX11_setSchedule_20 ?_
    show V K sX11_setSchedule 0 0 (mW a (up σ 1 29 1)) _ [.int (zI (bz false))] 21
    refine V_zret hR rfl (Nat.le_refl _) (Nat.le_refl _) dX11_setSchedule_21 ?_
    exact pub (gd_f c_2) rfl rfl ((hP).up (by decide))
  · refine V_iconst dX11_setSchedule_9 ?_
    refine V_goto (tgt := 14) dX11_setSchedule_10 (by decide) ?_
    refine V_callVF (As := [.int (zI 0)]) (b := a 0) (hb := (show (mW a σ)[0]? = some (a 0, .inr (10, mF a σ)) from rfl)) (hc := (show vwCl[10]? = some (RX11, TX11, 30) from rfl)) hK (c_fails hE a σ 0 ⟨by omega, by omega⟩) mokX11_fails w1172 w1174 wps1_9 ⟨Nat.le_of_ble_eq_true rfl, Nat.le_of_ble_eq_true rfl⟩ rfl (Nat.le_of_ble_eq_true rfl) ⟨Nat.le_refl _, Nat.le_refl _⟩ dX11_setSchedule_14 (fun v w p_5 => ?_)
    obtain ⟨rfl, rfl⟩ := p_5
    show V K sX11_setSchedule 0 0 (mW a (up σ 1 29 0)) _ [.int (zI (bz (decide (0 < 0))))] 17
    refine V_ifd_eq (tgt := 22) dX11_setSchedule_17 (by decide) (fun _ => ?_) (fun h => absurd h (by decide))
    refine V_aload_n dX11_setSchedule_22 rfl ?_
    refine V_iload_n dX11_setSchedule_23 rfl ?_
    refine mp_rowWeight rfl dX11_setSchedule_24 ?_
    refine V_aload_n dX11_setSchedule_27 rfl ?_
    refine V_iload_n dX11_setSchedule_28 rfl ?_
    refine mp_columnWeight rfl dX11_setSchedule_29 ?_
    refine V_aload_n dX11_setSchedule_32 rfl ?_
    refine V_aload_n dX11_setSchedule_33 rfl ?_
    refine mg_rowWeight rfl dX11_setSchedule_34 ?_
    refine V_eqT (y := zI v1) (rfl) ?_
    refine V_aload_n dX11_setSchedule_37 rfl ?_
    refine mg_columnWeight rfl dX11_setSchedule_38 ?_
    refine V_eqT (y := zI v2) (rfl) ?_
    refine V_callVF (As := [.int (zI v1), .int (zI v2)]) (b := a 0) (hb := (show (mW a (up (up (up σ 1 29 0) 0 11 v1) 0 12 v2))[0]? = some (a 0, .inr (10, mF a (up (up (up σ 1 29 0) 0 11 v1) 0 12 v2))) from rfl)) (hc := (show vwCl[10]? = some (RX11, TX11, 30) from rfl)) hK (c_allows hE a (up (up (up σ 1 29 0) 0 11 v1) 0 12 v2) v1 v2 (up (up P 0 11 v1) 0 12 v2) ⟨hM.sched c_2.1 c_2.2, ((((((hP).up (by decide))).upP _ _ _)).upP _ _ _), c_2⟩) mokX11_allows w1203 w1205 wps1_11 ⟨Nat.le_of_ble_eq_true rfl, Nat.le_of_ble_eq_true rfl⟩ rfl (Nat.le_of_ble_eq_true rfl) ⟨Nat.le_refl _, Nat.le_refl _⟩ dX11_setSchedule_41 (fun v w p_7 => ?_)
    obtain ⟨σ_8, rfl, rfl, q_9, q_10⟩ := p_7
    show V K sX11_setSchedule 0 0 (mW a σ_8) _ [.int (zI (bz (dcd (alw (up (up P 0 11 v1) 0 12 v2) v1 v2))))] 44
    refine V_zret hR rfl (Nat.le_refl _) (Nat.le_refl _) dX11_setSchedule_44 ?_
    exact pub (gd_t c_2) rfl ((congrFun (q_9 1 (by decide)) 29).trans (rfl)) ((((((((hP).up (by decide))).upP _ _ _)).upP _ _ _)).fr q_9 (by decide))
set_option maxRecDepth 100000 in
set_option maxHeartbeats 4000000 in
theorem c_setOffset {E : EV} (hE : Stb E) (a : Nat → Nat) (σ : St) (s0 : Int) (v0 : Int) (P : St) (hp : MI P ∧ PR P σ ∧ iR s0 ∧ iR v0) : MC E yX11_setOffset sX11_setOffset [.ref (a 0), .int (zI s0), .int (zI v0)] (mW a σ) (fun v w => ∃ σ2 : St, v = some (.int (zI ((sp_setOffset P s0 v0).2.1))) ∧ w = mW a σ2 ∧ (σ2 1 29 = (sp_setOffset P s0 v0).1) ∧ (PR (sp_setOffset P s0 v0).2.2 σ2)) := by
  refine MC.of hE [some (.ref (a 0)), some (.int (zI s0)), some (.int (zI v0))] 0 rfl rfl rfl (by simp [Value.category]) (Nat.le_of_ble_eq_true rfl) (fun K hK hR => ?_)
  obtain ⟨hM, hP, hp⟩ := hp
  have e0 := hP 0 (by decide) (by decide)
  have f0 : ∀ i, σ 0 i = P 0 i := fun i => by rw [e0]
  have mR := hM.1
  have mC := hM.2.1
  have mN := hM.2.2.1
  have mp := hM.pts
  have ma := hM.als
  have gR := f0 0
  have gC := f0 1
  have gN := f0 2
  have hr := hp
  obtain ⟨r0a, r0b⟩ : iR s0 := hp.1
  obtain ⟨r1a, r1b⟩ : iR v0 := hp.2
  refine V_aload_n dX11_setOffset_0 rfl ?_
  refine V_aload_n dX11_setOffset_1 rfl ?_
  refine V_iload_n dX11_setOffset_2 rfl ?_
  refine V_callVF (As := [.int (zI s0)]) (b := a 0) (hb := (show (mW a σ)[0]? = some (a 0, .inr (10, mF a σ)) from rfl)) (hc := (show vwCl[10]? = some (RX11, TX11, 30) from rfl)) hK (c_is hE a σ s0 P ⟨hM, hP, by (try refine ⟨?_, ?_⟩) <;> omega⟩) mokX11_is w1180 w1182 wps1_10 ⟨Nat.le_of_ble_eq_true rfl, Nat.le_of_ble_eq_true rfl⟩ rfl (Nat.le_of_ble_eq_true rfl) ⟨Nat.le_refl _, Nat.le_refl _⟩ dX11_setOffset_3 (fun v w p_1 => ?_)
  obtain ⟨rfl, rfl⟩ := p_1
  show V K sX11_setOffset 0 0 (mW a σ) _ [.int (zI (bz (decide (0 ≤ s0 ∧ s0 < P 0 2)))), .ref (a 0)] 6
  refine V_ifd_ne (tgt := 13) dX11_setOffset_6 (by decide) (fun c_2 => ?_) (fun c_2 => ?_)
  · refine V_iload_n dX11_setOffset_13 rfl ?_
    refine V_iconst dX11_setOffset_14 ?_
    refine V_bipush dX11_setOffset_15 (by decide) ?_
    refine V_callSE (As := [.int (zI v0), .int (zI 0), .int (zI 30)]) hK (c_isIn hE v0 0 30 (by refine ⟨?_, ?_, ?_⟩ <;> (try refine ⟨?_, ?_⟩) <;> omega)) mokX11_isIn w1169 w1170 ⟨Nat.le_of_ble_eq_true rfl, Nat.le_of_ble_eq_true rfl⟩ rfl (Nat.le_of_ble_eq_true rfl) ⟨Nat.le_refl _, Nat.le_refl _⟩ dX11_setOffset_17 (fun v w p_3 => ?_)
    obtain ⟨rfl, rfl⟩ := p_3
    show V K sX11_setOffset 0 0 (mW a σ) _ [.int (zI (bz (decide (0 ≤ v0 ∧ v0 ≤ 30)))), .ref (a 0)] 20
    refine V_ifd_eq (tgt := 27) dX11_setOffset_20 (by decide) (fun c_4 => ?_) (fun c_4 => ?_)
    · refine V_iconst dX11_setOffset_27 ?_
      refine V_callVF (As := [.int (zI 2)]) (b := a 0) (hb := (show (mW a σ)[0]? = some (a 0, .inr (10, mF a σ)) from rfl)) (hc := (show vwCl[10]? = some (RX11, TX11, 30) from rfl)) hK (c_fails hE a σ 2 ⟨by omega, by omega⟩) mokX11_fails w1172 w1174 wps1_9 ⟨Nat.le_of_ble_eq_true rfl, Nat.le_of_ble_eq_true rfl⟩ rfl (Nat.le_of_ble_eq_true rfl) ⟨Nat.le_refl _, Nat.le_refl _⟩ dX11_setOffset_28 (fun v w p_5 => ?_)
      obtain ⟨rfl, rfl⟩ := p_5
      show V K sX11_setOffset 0 0 (mW a (up σ 1 29 2)) _ [.int (zI (bz (decide (0 < 2))))] 31
      refine V_ifd_eq (tgt := 36) dX11_setOffset_31 (by decide) (fun h => absurd (by decide) h) (fun _ => ?_)
      refine V_iconst dX11_setOffset_34 ?_
      show V K sX11_setOffset 0 0 (mW a (up σ 1 29 2)) _ [.int (zI (bz false))] 35
      refine V_zret hR rfl (Nat.le_refl _) (Nat.le_refl _) dX11_setOffset_35 ?_
      exact pub ((gd_t c_2).trans (gd_f c_4)) rfl rfl ((hP).up (by decide))
    · refine V_iconst dX11_setOffset_23 ?_
      refine V_goto (tgt := 28) dX11_setOffset_24 (by decide) ?_
      refine V_callVF (As := [.int (zI 0)]) (b := a 0) (hb := (show (mW a σ)[0]? = some (a 0, .inr (10, mF a σ)) from rfl)) (hc := (show vwCl[10]? = some (RX11, TX11, 30) from rfl)) hK (c_fails hE a σ 0 ⟨by omega, by omega⟩) mokX11_fails w1172 w1174 wps1_9 ⟨Nat.le_of_ble_eq_true rfl, Nat.le_of_ble_eq_true rfl⟩ rfl (Nat.le_of_ble_eq_true rfl) ⟨Nat.le_refl _, Nat.le_refl _⟩ dX11_setOffset_28 (fun v w p_7 => ?_)
      obtain ⟨rfl, rfl⟩ := p_7
      show V K sX11_setOffset 0 0 (mW a (up σ 1 29 0)) _ [.int (zI (bz (decide (0 < 0))))] 31
      refine V_ifd_eq (tgt := 36) dX11_setOffset_31 (by decide) (fun _ => ?_) (fun h => absurd h (by decide))
      refine V_aload_n dX11_setOffset_36 rfl ?_
      refine mg_offset rfl dX11_setOffset_37 ?_
      refine V_iload_n dX11_setOffset_40 rfl ?_
      refine V_iload_n dX11_setOffset_41 rfl ?_
      refine ms_offset ⟨by omega, by omega⟩ dX11_setOffset_42 ?_
      refine V_aload_n dX11_setOffset_43 rfl ?_
      refine V_aload_n dX11_setOffset_44 rfl ?_
      refine mg_rowWeight rfl dX11_setOffset_45 ?_
      refine V_eqT (y := zI (P 0 11)) (by rw [show (up (up σ 1 29 0) 10 s0 v0) 0 11 = σ 0 11 from rfl, f0]) ?_
      refine V_aload_n dX11_setOffset_48 rfl ?_
      refine mg_columnWeight rfl dX11_setOffset_49 ?_
      refine V_eqT (y := zI (P 0 12)) (by rw [show (up (up σ 1 29 0) 10 s0 v0) 0 12 = σ 0 12 from rfl, f0]) ?_
      refine V_callVF (As := [.int (zI (P 0 11)), .int (zI (P 0 12))]) (b := a 0) (hb := (show (mW a (up (up σ 1 29 0) 10 s0 v0))[0]? = some (a 0, .inr (10, mF a (up (up σ 1 29 0) 10 s0 v0))) from rfl)) (hc := (show vwCl[10]? = some (RX11, TX11, 30) from rfl)) hK (c_allows hE a (up (up σ 1 29 0) 10 s0 v0) (P 0 11) (P 0 12) (up P 10 s0 v0) ⟨hM.offset c_2 c_4, ((((hP).up (by decide))).upP _ _ _), hM.2.2.2.1, hM.2.2.2.2.1⟩) mokX11_allows w1203 w1205 wps1_11 ⟨Nat.le_of_ble_eq_true rfl, Nat.le_of_ble_eq_true rfl⟩ rfl (Nat.le_of_ble_eq_true rfl) ⟨Nat.le_refl _, Nat.le_refl _⟩ dX11_setOffset_52 (fun v w p_9 => ?_)
      obtain ⟨σ_10, rfl, rfl, q_11, q_12⟩ := p_9
      show V K sX11_setOffset 0 0 (mW a σ_10) _ [.int (zI (bz (dcd (alw (up P 10 s0 v0) (P 0 11) (P 0 12)))))] 55
      refine V_zret hR rfl (Nat.le_refl _) (Nat.le_refl _) dX11_setOffset_55 ?_
      exact pub ((gd_t c_2).trans (gd_t c_4)) rfl ((congrFun (q_11 1 (by decide)) 29).trans (rfl)) ((((((hP).up (by decide))).upP _ _ _)).fr q_11 (by decide))
  · refine V_iconst dX11_setOffset_9 ?_
    refine V_goto (tgt := 28) dX11_setOffset_10 (by decide) ?_
    refine V_callVF (As := [.int (zI 1)]) (b := a 0) (hb := (show (mW a σ)[0]? = some (a 0, .inr (10, mF a σ)) from rfl)) (hc := (show vwCl[10]? = some (RX11, TX11, 30) from rfl)) hK (c_fails hE a σ 1 ⟨by omega, by omega⟩) mokX11_fails w1172 w1174 wps1_9 ⟨Nat.le_of_ble_eq_true rfl, Nat.le_of_ble_eq_true rfl⟩ rfl (Nat.le_of_ble_eq_true rfl) ⟨Nat.le_refl _, Nat.le_refl _⟩ dX11_setOffset_28 (fun v w p_13 => ?_)
    obtain ⟨rfl, rfl⟩ := p_13
    show V K sX11_setOffset 0 0 (mW a (up σ 1 29 1)) _ [.int (zI (bz (decide (0 < 1))))] 31
    refine V_ifd_eq (tgt := 36) dX11_setOffset_31 (by decide) (fun h => absurd (by decide) h) (fun _ => ?_)
    refine V_iconst dX11_setOffset_34 ?_
    show V K sX11_setOffset 0 0 (mW a (up σ 1 29 1)) _ [.int (zI (bz false))] 35
    refine V_zret hR rfl (Nat.le_refl _) (Nat.le_refl _) dX11_setOffset_35 ?_
    exact pub (gd_f c_2) rfl rfl ((hP).up (by decide))
set_option maxRecDepth 100000 in
set_option maxHeartbeats 4000000 in
theorem c_isAllowed {E : EV} (hE : Stb E) (a : Nat → Nat) (σ : St) (P : St) (hp : MI P ∧ PR P σ) : MC E yX11_isAllowed sX11_isAllowed [.ref (a 0)] (mW a σ) (fun v w => ∃ σ2 : St, v = some (.int (zI ((sp_isAllowed P).2.1))) ∧ w = mW a σ2 ∧ (σ2 1 29 = (sp_isAllowed P).1) ∧ (PR (sp_isAllowed P).2.2 σ2)) := by
  refine MC.of hE [some (.ref (a 0))] 0 rfl rfl rfl (by simp [Value.category]) (Nat.le_of_ble_eq_true rfl) (fun K hK hR => ?_)
  obtain ⟨hM, hP⟩ := hp
  have e0 := hP 0 (by decide) (by decide)
  have f0 : ∀ i, σ 0 i = P 0 i := fun i => by rw [e0]
  have mR := hM.1
  have mC := hM.2.1
  have mN := hM.2.2.1
  have mp := hM.pts
  have ma := hM.als
  have gR := f0 0
  have gC := f0 1
  have gN := f0 2
  refine V_aload_n dX11_isAllowed_0 rfl ?_
  refine V_iconst dX11_isAllowed_1 ?_
  refine mp_thrown rfl dX11_isAllowed_2 ?_
  refine V_aload_n dX11_isAllowed_5 rfl ?_
  refine V_aload_n dX11_isAllowed_6 rfl ?_
  refine mg_rowWeight rfl dX11_isAllowed_7 ?_
  refine V_eqT (y := zI (P 0 11)) (by rw [show (up σ 1 29 0) 0 11 = σ 0 11 from rfl, f0]) ?_
  refine V_aload_n dX11_isAllowed_10 rfl ?_
  refine mg_columnWeight rfl dX11_isAllowed_11 ?_
  refine V_eqT (y := zI (P 0 12)) (by rw [show (up σ 1 29 0) 0 12 = σ 0 12 from rfl, f0]) ?_
  refine V_callVF (As := [.int (zI (P 0 11)), .int (zI (P 0 12))]) (b := a 0) (hb := (show (mW a (up σ 1 29 0))[0]? = some (a 0, .inr (10, mF a (up σ 1 29 0))) from rfl)) (hc := (show vwCl[10]? = some (RX11, TX11, 30) from rfl)) hK (c_allows hE a (up σ 1 29 0) (P 0 11) (P 0 12) P ⟨hM, ((hP).up (by decide)), hM.2.2.2.1, hM.2.2.2.2.1⟩) mokX11_allows w1203 w1205 wps1_11 ⟨Nat.le_of_ble_eq_true rfl, Nat.le_of_ble_eq_true rfl⟩ rfl (Nat.le_of_ble_eq_true rfl) ⟨Nat.le_refl _, Nat.le_refl _⟩ dX11_isAllowed_14 (fun v w p_1 => ?_)
  obtain ⟨σ_2, rfl, rfl, q_3, q_4⟩ := p_1
  show V K sX11_isAllowed 0 0 (mW a σ_2) _ [.int (zI (bz (dcd (alw P (P 0 11) (P 0 12)))))] 17
  refine V_zret hR rfl (Nat.le_refl _) (Nat.le_refl _) dX11_isAllowed_17 ?_
  exact pub rfl rfl ((congrFun (q_3 1 (by decide)) 29).trans (rfl)) ((((hP).up (by decide))).fr q_3 (by decide))
set_option maxRecDepth 100000 in
set_option maxHeartbeats 4000000 in
theorem c_isAllowedWith {E : EV} (hE : Stb E) (a : Nat → Nat) (σ : St) (v1 : Int) (v2 : Int) (P : St) (hp : MI P ∧ PR P σ ∧ iR v1 ∧ iR v2) : MC E yX11_isAllowedWith sX11_isAllowedWith [.ref (a 0), .int (zI v1), .int (zI v2)] (mW a σ) (fun v w => ∃ σ2 : St, v = some (.int (zI ((sp_isAllowedWith P v1 v2).2.1))) ∧ w = mW a σ2 ∧ (σ2 1 29 = (sp_isAllowedWith P v1 v2).1) ∧ (PR (sp_isAllowedWith P v1 v2).2.2 σ2)) := by
  refine MC.of hE [some (.ref (a 0)), some (.int (zI v1)), some (.int (zI v2))] 0 rfl rfl rfl (by simp [Value.category]) (Nat.le_of_ble_eq_true rfl) (fun K hK hR => ?_)
  obtain ⟨hM, hP, hp⟩ := hp
  have e0 := hP 0 (by decide) (by decide)
  have f0 : ∀ i, σ 0 i = P 0 i := fun i => by rw [e0]
  have mR := hM.1
  have mC := hM.2.1
  have mN := hM.2.2.1
  have mp := hM.pts
  have ma := hM.als
  have gR := f0 0
  have gC := f0 1
  have gN := f0 2
  have hr := hp
  obtain ⟨r0a, r0b⟩ : iR v1 := hp.1
  obtain ⟨r1a, r1b⟩ : iR v2 := hp.2
  refine V_aload_n dX11_isAllowedWith_0 rfl ?_
  refine V_iload_n dX11_isAllowedWith_1 rfl ?_
  refine V_iload_n dX11_isAllowedWith_2 rfl ?_
  refine V_callSE (As := [.int (zI v1), .int (zI v2)]) hK (c_areWeights hE v1 v2 (by refine ⟨?_, ?_⟩ <;> (try refine ⟨?_, ?_⟩) <;> omega)) mokX11_areWeights w1200 w1201 ⟨Nat.le_of_ble_eq_true rfl, Nat.le_of_ble_eq_true rfl⟩ rfl (Nat.le_of_ble_eq_true rfl) ⟨Nat.le_refl _, Nat.le_refl _⟩ dX11_isAllowedWith_3 (fun v w p_1 => ?_)
  obtain ⟨rfl, rfl⟩ := p_1
  show V K sX11_isAllowedWith 0 0 (mW a σ) _ [.int (zI (bz (decide ((0 ≤ v1 ∧ v1 ≤ 9) ∧ (0 ≤ v2 ∧ v2 ≤ 9))))), .ref (a 0)] 6
  refine V_ifd_eq (tgt := 13) dX11_isAllowedWith_6 (by decide) (fun c_2 => ?_) (fun c_2 => ?_)
  · refine V_iconst dX11_isAllowedWith_13 ?_
    refine V_callVF (As := [.int (zI 1)]) (b := a 0) (hb := (show (mW a σ)[0]? = some (a 0, .inr (10, mF a σ)) from rfl)) (hc := (show vwCl[10]? = some (RX11, TX11, 30) from rfl)) hK (c_fails hE a σ 1 ⟨by omega, by omega⟩) mokX11_fails w1172 w1174 wps1_9 ⟨Nat.le_of_ble_eq_true rfl, Nat.le_of_ble_eq_true rfl⟩ rfl (Nat.le_of_ble_eq_true rfl) ⟨Nat.le_refl _, Nat.le_refl _⟩ dX11_isAllowedWith_14 (fun v w p_3 => ?_)
    obtain ⟨rfl, rfl⟩ := p_3
    show V K sX11_isAllowedWith 0 0 (mW a (up σ 1 29 1)) _ [.int (zI (bz (decide (0 < 1))))] 17
    refine V_ifd_ne (tgt := 33) dX11_isAllowedWith_17 (by decide) (fun _ => ?_) (fun h => absurd (by decide) h)
    refine V_iconst dX11_isAllowedWith_33 ?_
    show V K sX11_isAllowedWith 0 0 (mW a (up σ 1 29 1)) _ [.int (zI (bz false))] 34
    refine V_zret hR rfl (Nat.le_refl _) (Nat.le_refl _) dX11_isAllowedWith_34 ?_
    exact pub (gd_f c_2) rfl rfl ((hP).up (by decide))
  · refine V_iconst dX11_isAllowedWith_9 ?_
    refine V_goto (tgt := 14) dX11_isAllowedWith_10 (by decide) ?_
    refine V_callVF (As := [.int (zI 0)]) (b := a 0) (hb := (show (mW a σ)[0]? = some (a 0, .inr (10, mF a σ)) from rfl)) (hc := (show vwCl[10]? = some (RX11, TX11, 30) from rfl)) hK (c_fails hE a σ 0 ⟨by omega, by omega⟩) mokX11_fails w1172 w1174 wps1_9 ⟨Nat.le_of_ble_eq_true rfl, Nat.le_of_ble_eq_true rfl⟩ rfl (Nat.le_of_ble_eq_true rfl) ⟨Nat.le_refl _, Nat.le_refl _⟩ dX11_isAllowedWith_14 (fun v w p_5 => ?_)
    obtain ⟨rfl, rfl⟩ := p_5
    show V K sX11_isAllowedWith 0 0 (mW a (up σ 1 29 0)) _ [.int (zI (bz (decide (0 < 0))))] 17
    refine V_ifd_ne (tgt := 33) dX11_isAllowedWith_17 (by decide) (fun h => absurd h (by decide)) (fun _ => ?_)
    refine V_aload_n dX11_isAllowedWith_20 rfl ?_
    refine V_iload_n dX11_isAllowedWith_21 rfl ?_
    refine V_iload_n dX11_isAllowedWith_22 rfl ?_
    refine V_callVF (As := [.int (zI v1), .int (zI v2)]) (b := a 0) (hb := (show (mW a (up σ 1 29 0))[0]? = some (a 0, .inr (10, mF a (up σ 1 29 0))) from rfl)) (hc := (show vwCl[10]? = some (RX11, TX11, 30) from rfl)) hK (c_allows hE a (up σ 1 29 0) v1 v2 P ⟨hM, ((hP).up (by decide)), c_2⟩) mokX11_allows w1203 w1205 wps1_11 ⟨Nat.le_of_ble_eq_true rfl, Nat.le_of_ble_eq_true rfl⟩ rfl (Nat.le_of_ble_eq_true rfl) ⟨Nat.le_refl _, Nat.le_refl _⟩ dX11_isAllowedWith_23 (fun v w p_7 => ?_)
    obtain ⟨σ_8, rfl, rfl, q_9, q_10⟩ := p_7
    show V K sX11_isAllowedWith 0 0 (mW a σ_8) _ [.int (zI (bz (dcd (alw P v1 v2))))] 26
    refine V_ifc_eq (tgt := 33) dX11_isAllowedWith_26 (by decide) (fun c_11 => ?_) (fun c_11 => ?_)
    · refine V_iconst dX11_isAllowedWith_33 ?_
      show V K sX11_isAllowedWith 0 0 (mW a σ_8) _ [.int (zI (bz false))] 34
      refine V_zret hR rfl (Nat.le_refl _) (Nat.le_refl _) dX11_isAllowedWith_34 ?_
      exact pub (gd_t c_2) (bzE (dcd_f.mpr c_11).symm) ((congrFun (q_9 1 (by decide)) 29).trans (rfl)) ((((hP).up (by decide))).fr q_9 (by decide))
    · refine V_iconst dX11_isAllowedWith_29 ?_
      refine V_goto (tgt := 34) dX11_isAllowedWith_30 (by decide) ?_
      show V K sX11_isAllowedWith 0 0 (mW a σ_8) _ [.int (zI (bz true))] 34
      refine V_zret hR rfl (Nat.le_refl _) (Nat.le_refl _) dX11_isAllowedWith_34 ?_
      exact pub (gd_t c_2) (bzE (dcd_t.mpr c_11).symm) ((congrFun (q_9 1 (by decide)) 29).trans (rfl)) ((((hP).up (by decide))).fr q_9 (by decide))
set_option maxRecDepth 100000 in
set_option maxHeartbeats 4000000 in
theorem c_isReadInOrder {E : EV} (hE : Stb E) (a : Nat → Nat) (σ : St) (s0 : Int) (j0 : Int) (P : St) (hp : MI P ∧ PR P σ ∧ iR s0 ∧ iR j0) : MC E yX11_isReadInOrder sX11_isReadInOrder [.ref (a 0), .int (zI s0), .int (zI j0)] (mW a σ) (fun v w => ∃ σ2 : St, v = some (.int (zI ((sp_isReadInOrder P s0 j0).2.1))) ∧ w = mW a σ2 ∧ (σ2 1 29 = (sp_isReadInOrder P s0 j0).1) ∧ (PR (sp_isReadInOrder P s0 j0).2.2 σ2)) := by
  refine MC.of hE [some (.ref (a 0)), some (.int (zI s0)), some (.int (zI j0))] 0 rfl rfl rfl (by simp [Value.category]) (Nat.le_of_ble_eq_true rfl) (fun K hK hR => ?_)
  obtain ⟨hM, hP, hp⟩ := hp
  have e0 := hP 0 (by decide) (by decide)
  have f0 : ∀ i, σ 0 i = P 0 i := fun i => by rw [e0]
  have mR := hM.1
  have mC := hM.2.1
  have mN := hM.2.2.1
  have mp := hM.pts
  have ma := hM.als
  have gR := f0 0
  have gC := f0 1
  have gN := f0 2
  have hr := hp
  obtain ⟨r0a, r0b⟩ : iR s0 := hp.1
  obtain ⟨r1a, r1b⟩ : iR j0 := hp.2
  refine V_aload_n dX11_isReadInOrder_0 rfl ?_
  refine V_aload_n dX11_isReadInOrder_1 rfl ?_
  refine V_iload_n dX11_isReadInOrder_2 rfl ?_
  refine V_callVF (As := [.int (zI s0)]) (b := a 0) (hb := (show (mW a σ)[0]? = some (a 0, .inr (10, mF a σ)) from rfl)) (hc := (show vwCl[10]? = some (RX11, TX11, 30) from rfl)) hK (c_is hE a σ s0 P ⟨hM, hP, by (try refine ⟨?_, ?_⟩) <;> omega⟩) mokX11_is w1180 w1182 wps1_10 ⟨Nat.le_of_ble_eq_true rfl, Nat.le_of_ble_eq_true rfl⟩ rfl (Nat.le_of_ble_eq_true rfl) ⟨Nat.le_refl _, Nat.le_refl _⟩ dX11_isReadInOrder_3 (fun v w p_1 => ?_)
  obtain ⟨rfl, rfl⟩ := p_1
  show V K sX11_isReadInOrder 0 0 (mW a σ) _ [.int (zI (bz (decide (0 ≤ s0 ∧ s0 < P 0 2)))), .ref (a 0)] 6
  refine V_ifd_eq (tgt := 29) dX11_isReadInOrder_6 (by decide) (fun c_2 => ?_) (fun c_2 => ?_)
  · refine V_iconst dX11_isReadInOrder_29 ?_
    refine V_callVF (As := [.int (zI 1)]) (b := a 0) (hb := (show (mW a σ)[0]? = some (a 0, .inr (10, mF a σ)) from rfl)) (hc := (show vwCl[10]? = some (RX11, TX11, 30) from rfl)) hK (c_fails hE a σ 1 ⟨by omega, by omega⟩) mokX11_fails w1172 w1174 wps1_9 ⟨Nat.le_of_ble_eq_true rfl, Nat.le_of_ble_eq_true rfl⟩ rfl (Nat.le_of_ble_eq_true rfl) ⟨Nat.le_refl _, Nat.le_refl _⟩ dX11_isReadInOrder_30 (fun v w p_3 => ?_)
    obtain ⟨rfl, rfl⟩ := p_3
    show V K sX11_isReadInOrder 0 0 (mW a (up σ 1 29 1)) _ [.int (zI (bz (decide (0 < 1))))] 33
    refine V_ifd_eq (tgt := 38) dX11_isReadInOrder_33 (by decide) (fun h => absurd (by decide) h) (fun _ => ?_)
    refine V_iconst dX11_isReadInOrder_36 ?_
    show V K sX11_isReadInOrder 0 0 (mW a (up σ 1 29 1)) _ [.int (zI (bz false))] 37
    refine V_zret hR rfl (Nat.le_refl _) (Nat.le_refl _) dX11_isReadInOrder_37 ?_
    exact pub (gd_f (fun h => c_2 h.1)) rfl rfl ((hP).up (by decide))
  · refine V_iload_n dX11_isReadInOrder_9 rfl ?_
    refine V_iconst dX11_isReadInOrder_10 ?_
    refine V_aload_n dX11_isReadInOrder_11 rfl ?_
    refine mg_reads rfl dX11_isReadInOrder_12 ?_
    refine V_iload_n dX11_isReadInOrder_15 rfl ?_
    have q4 := (hM.2.2.2.2.2.1 s0 (by omega) (by omega)).2.1
    have q5 : σ 4 s0 = P 4 s0 := by rw [hP 4 (by decide) (by decide)]
    refine ml_reads ⟨by omega, by omega⟩ dX11_isReadInOrder_16 ?_
    refine V_iconst dX11_isReadInOrder_17 ?_
    refine V_isub dX11_isReadInOrder_18 ?_
    refine V_callSE (As := [.int (zI j0), .int (zI 0), .int (zI ((σ 4 s0) - 1))]) hK (c_isIn hE j0 0 ((σ 4 s0) - 1) (by refine ⟨?_, ?_, ?_⟩ <;> (try refine ⟨?_, ?_⟩) <;> omega)) mokX11_isIn w1169 w1170 ⟨Nat.le_of_ble_eq_true rfl, Nat.le_of_ble_eq_true rfl⟩ rfl (Nat.le_of_ble_eq_true rfl) ⟨Nat.le_refl _, Nat.le_refl _⟩ dX11_isReadInOrder_19 (fun v w p_5 => ?_)
    obtain ⟨rfl, rfl⟩ := p_5
    show V K sX11_isReadInOrder 0 0 (mW a σ) _ [.int (zI (bz (decide (0 ≤ j0 ∧ j0 ≤ ((σ 4 s0) - 1))))), .ref (a 0)] 22
    refine V_ifd_eq (tgt := 29) dX11_isReadInOrder_22 (by decide) (fun c_6 => ?_) (fun c_6 => ?_)
    · refine V_iconst dX11_isReadInOrder_29 ?_
      refine V_callVF (As := [.int (zI 1)]) (b := a 0) (hb := (show (mW a σ)[0]? = some (a 0, .inr (10, mF a σ)) from rfl)) (hc := (show vwCl[10]? = some (RX11, TX11, 30) from rfl)) hK (c_fails hE a σ 1 ⟨by omega, by omega⟩) mokX11_fails w1172 w1174 wps1_9 ⟨Nat.le_of_ble_eq_true rfl, Nat.le_of_ble_eq_true rfl⟩ rfl (Nat.le_of_ble_eq_true rfl) ⟨Nat.le_refl _, Nat.le_refl _⟩ dX11_isReadInOrder_30 (fun v w p_7 => ?_)
      obtain ⟨rfl, rfl⟩ := p_7
      show V K sX11_isReadInOrder 0 0 (mW a (up σ 1 29 1)) _ [.int (zI (bz (decide (0 < 1))))] 33
      refine V_ifd_eq (tgt := 38) dX11_isReadInOrder_33 (by decide) (fun h => absurd (by decide) h) (fun _ => ?_)
      refine V_iconst dX11_isReadInOrder_36 ?_
      show V K sX11_isReadInOrder 0 0 (mW a (up σ 1 29 1)) _ [.int (zI (bz false))] 37
      refine V_zret hR rfl (Nat.le_refl _) (Nat.le_refl _) dX11_isReadInOrder_37 ?_
      exact pub (gd_f (fun h => c_6 (by have := h.2; omega))) rfl rfl ((hP).up (by decide))
    · refine V_iconst dX11_isReadInOrder_25 ?_
      refine V_goto (tgt := 30) dX11_isReadInOrder_26 (by decide) ?_
      refine V_callVF (As := [.int (zI 0)]) (b := a 0) (hb := (show (mW a σ)[0]? = some (a 0, .inr (10, mF a σ)) from rfl)) (hc := (show vwCl[10]? = some (RX11, TX11, 30) from rfl)) hK (c_fails hE a σ 0 ⟨by omega, by omega⟩) mokX11_fails w1172 w1174 wps1_9 ⟨Nat.le_of_ble_eq_true rfl, Nat.le_of_ble_eq_true rfl⟩ rfl (Nat.le_of_ble_eq_true rfl) ⟨Nat.le_refl _, Nat.le_refl _⟩ dX11_isReadInOrder_30 (fun v w p_9 => ?_)
      obtain ⟨rfl, rfl⟩ := p_9
      show V K sX11_isReadInOrder 0 0 (mW a (up σ 1 29 0)) _ [.int (zI (bz (decide (0 < 0))))] 33
      refine V_ifd_eq (tgt := 38) dX11_isReadInOrder_33 (by decide) (fun _ => ?_) (fun h => absurd h (by decide))
      refine V_aload_n dX11_isReadInOrder_38 rfl ?_
      refine V_callVF (As := []) (b := a 0) (hb := (show (mW a (up σ 1 29 0))[0]? = some (a 0, .inr (10, mF a (up σ 1 29 0))) from rfl)) (hc := (show vwCl[10]? = some (RX11, TX11, 30) from rfl)) hK (c_orders hE a (up σ 1 29 0) P ⟨hM, ((hP).up (by decide))⟩) mokX11_orders w1263 w1265 wps2_6 ⟨Nat.le_of_ble_eq_true rfl, Nat.le_of_ble_eq_true rfl⟩ rfl (Nat.le_of_ble_eq_true rfl) ⟨Nat.le_refl _, Nat.le_refl _⟩ dX11_isReadInOrder_39 (fun v w p_11 => ?_)
      obtain ⟨σ_12, rfl, rfl, q_13, q_14⟩ := p_11
      show V K sX11_isReadInOrder 0 0 (mW a σ_12) _ [] 42
      refine V_aload_n dX11_isReadInOrder_42 rfl ?_
      refine V_iload_n dX11_isReadInOrder_43 rfl ?_
      refine V_iload_n dX11_isReadInOrder_44 rfl ?_
      refine V_callVF (As := [.int (zI s0), .int (zI j0)]) (b := a 0) (hb := (show (mW a σ_12)[0]? = some (a 0, .inr (10, mF a σ_12)) from rfl)) (hc := (show vwCl[10]? = some (RX11, TX11, 30) from rfl)) hK (c_isInOrder hE a σ_12 s0 j0 P (P 0 11) (P 0 12) ⟨hM, ((((hP).up (by decide))).fr q_13 (by decide)), q_14, c_2, by omega, by omega⟩) mokX11_isInOrder w1231 w1233 wps2_2 ⟨Nat.le_of_ble_eq_true rfl, Nat.le_of_ble_eq_true rfl⟩ rfl (Nat.le_of_ble_eq_true rfl) ⟨Nat.le_refl _, Nat.le_refl _⟩ dX11_isReadInOrder_45 (fun v w p_15 => ?_)
      obtain ⟨rfl, rfl⟩ := p_15
      show V K sX11_isReadInOrder 0 0 (mW a σ_12) _ [.int (zI (bz (dcd (inO P (P 0 11) (P 0 12) s0 j0))))] 48
      refine V_zret hR rfl (Nat.le_refl _) (Nat.le_refl _) dX11_isReadInOrder_48 ?_
      exact pub (gd_t ⟨c_2, by omega⟩) rfl ((congrFun (q_13 1 (by decide)) 29).trans (rfl)) ((((hP).up (by decide))).fr q_13 (by decide))
set_option maxRecDepth 100000 in
set_option maxHeartbeats 4000000 in
theorem c_steps {E : EV} (hE : Stb E) (a : Nat → Nat) (σ : St) (P : St) (hp : MI P ∧ PR P σ) : MC E yX11_steps sX11_steps [.ref (a 0)] (mW a σ) (fun v w => ∃ σ2 : St, v = some (.int (zI ((sp_steps P).2.1))) ∧ w = mW a σ2 ∧ (σ2 1 29 = (sp_steps P).1) ∧ (PR (sp_steps P).2.2 σ2)) := by
  refine MC.of hE [some (.ref (a 0))] 0 rfl rfl rfl (by simp [Value.category]) (Nat.le_of_ble_eq_true rfl) (fun K hK hR => ?_)
  obtain ⟨hM, hP⟩ := hp
  have e0 := hP 0 (by decide) (by decide)
  have f0 : ∀ i, σ 0 i = P 0 i := fun i => by rw [e0]
  have mR := hM.1
  have mC := hM.2.1
  have mN := hM.2.2.1
  have mp := hM.pts
  have ma := hM.als
  have gR := f0 0
  have gC := f0 1
  have gN := f0 2
  refine V_aload_n dX11_steps_0 rfl ?_
  refine V_iconst dX11_steps_1 ?_
  refine mp_thrown rfl dX11_steps_2 ?_
  refine V_aload_n dX11_steps_5 rfl ?_
  refine V_callVF (As := []) (b := a 0) (hb := (show (mW a (up σ 1 29 0))[0]? = some (a 0, .inr (10, mF a (up σ 1 29 0))) from rfl)) (hc := (show vwCl[10]? = some (RX11, TX11, 30) from rfl)) hK (c_all hE a (up σ 1 29 0) P ⟨hM, ((hP).up (by decide))⟩) mokX11_all w1211 w1213 wps1_13 ⟨Nat.le_of_ble_eq_true rfl, Nat.le_of_ble_eq_true rfl⟩ rfl (Nat.le_of_ble_eq_true rfl) ⟨Nat.le_refl _, Nat.le_refl _⟩ dX11_steps_6 (fun v w p_1 => ?_)
  obtain ⟨rfl, rfl⟩ := p_1
  show V K sX11_steps 0 0 (mW a (up σ 1 29 0)) _ [.int (zI (al P))] 9
  refine V_iret hR rfl (Nat.le_refl _) (Nat.le_refl _) dX11_steps_9 ?_
  exact pub rfl rfl rfl ((hP).up (by decide))
set_option maxRecDepth 100000 in
set_option maxHeartbeats 4000000 in
theorem c_stepOf {E : EV} (hE : Stb E) (a : Nat → Nat) (σ : St) (s0 : Int) (i : Int) (j : Int) (P : St) (hp : MI P ∧ PR P σ ∧ iR s0 ∧ iR i ∧ iR j) : MC E yX11_stepOf sX11_stepOf [.ref (a 0), .int (zI s0), .int (zI i), .int (zI j)] (mW a σ) (fun v w => ∃ σ2 : St, v = some (.int (zI ((sp_stepOf P s0 i j).2.1))) ∧ w = mW a σ2 ∧ (σ2 1 29 = (sp_stepOf P s0 i j).1) ∧ (PR (sp_stepOf P s0 i j).2.2 σ2)) := by
  refine MC.of hE [some (.ref (a 0)), some (.int (zI s0)), some (.int (zI i)), some (.int (zI j))] 0 rfl rfl rfl (by simp [Value.category]) (Nat.le_of_ble_eq_true rfl) (fun K hK hR => ?_)
  obtain ⟨hM, hP, hp⟩ := hp
  have e0 := hP 0 (by decide) (by decide)
  have f0 : ∀ i, σ 0 i = P 0 i := fun i => by rw [e0]
  have mR := hM.1
  have mC := hM.2.1
  have mN := hM.2.2.1
  have mp := hM.pts
  have ma := hM.als
  have gR := f0 0
  have gC := f0 1
  have gN := f0 2
  have hr := hp
  obtain ⟨r0a, r0b⟩ : iR s0 := hp.1
  obtain ⟨r1a, r1b⟩ : iR i := hp.2.1
  obtain ⟨r2a, r2b⟩ : iR j := hp.2.2
  refine V_aload_n dX11_stepOf_0 rfl ?_
  refine V_aload_n dX11_stepOf_1 rfl ?_
  refine V_iload_n dX11_stepOf_2 rfl ?_
  refine V_iload_n dX11_stepOf_3 rfl ?_
  refine V_iload_n dX11_stepOf_4 rfl ?_
  refine V_callVF (As := [.int (zI s0), .int (zI i), .int (zI j)]) (b := a 0) (hb := (show (mW a σ)[0]? = some (a 0, .inr (10, mF a σ)) from rfl)) (hc := (show vwCl[10]? = some (RX11, TX11, 30) from rfl)) hK (c_isCell hE a σ s0 i j P ⟨hM, hP, by refine ⟨?_, ?_, ?_⟩ <;> (try refine ⟨?_, ?_⟩) <;> omega⟩) mokX11_isCell w1275 w1277 wps2_7 ⟨Nat.le_of_ble_eq_true rfl, Nat.le_of_ble_eq_true rfl⟩ rfl (Nat.le_of_ble_eq_true rfl) ⟨Nat.le_refl _, Nat.le_refl _⟩ dX11_stepOf_5 (fun v w p_1 => ?_)
  obtain ⟨rfl, rfl⟩ := p_1
  show V K sX11_stepOf 0 0 (mW a σ) _ [.int (zI (bz (decide ((0 ≤ s0 ∧ s0 < P 0 2) ∧ 0 ≤ i ∧ i < P 0 0 ∧ 0 ≤ j ∧ j < P 0 1)))), .ref (a 0)] 8
  refine V_ifd_eq (tgt := 15) dX11_stepOf_8 (by decide) (fun c_2 => ?_) (fun c_2 => ?_)
  · refine V_iconst dX11_stepOf_15 ?_
    refine V_callVF (As := [.int (zI 1)]) (b := a 0) (hb := (show (mW a σ)[0]? = some (a 0, .inr (10, mF a σ)) from rfl)) (hc := (show vwCl[10]? = some (RX11, TX11, 30) from rfl)) hK (c_fails hE a σ 1 ⟨by omega, by omega⟩) mokX11_fails w1172 w1174 wps1_9 ⟨Nat.le_of_ble_eq_true rfl, Nat.le_of_ble_eq_true rfl⟩ rfl (Nat.le_of_ble_eq_true rfl) ⟨Nat.le_refl _, Nat.le_refl _⟩ dX11_stepOf_16 (fun v w p_3 => ?_)
    obtain ⟨rfl, rfl⟩ := p_3
    show V K sX11_stepOf 0 0 (mW a (up σ 1 29 1)) _ [.int (zI (bz (decide (0 < 1))))] 19
    refine V_ifd_eq (tgt := 24) dX11_stepOf_19 (by decide) (fun h => absurd (by decide) h) (fun _ => ?_)
    refine V_iconst dX11_stepOf_22 ?_
    refine V_iret hR rfl (Nat.le_refl _) (Nat.le_refl _) dX11_stepOf_23 ?_
    exact pub (gd_f c_2) rfl rfl ((hP).up (by decide))
  · refine V_iconst dX11_stepOf_11 ?_
    refine V_goto (tgt := 16) dX11_stepOf_12 (by decide) ?_
    refine V_callVF (As := [.int (zI 0)]) (b := a 0) (hb := (show (mW a σ)[0]? = some (a 0, .inr (10, mF a σ)) from rfl)) (hc := (show vwCl[10]? = some (RX11, TX11, 30) from rfl)) hK (c_fails hE a σ 0 ⟨by omega, by omega⟩) mokX11_fails w1172 w1174 wps1_9 ⟨Nat.le_of_ble_eq_true rfl, Nat.le_of_ble_eq_true rfl⟩ rfl (Nat.le_of_ble_eq_true rfl) ⟨Nat.le_refl _, Nat.le_refl _⟩ dX11_stepOf_16 (fun v w p_5 => ?_)
    obtain ⟨rfl, rfl⟩ := p_5
    show V K sX11_stepOf 0 0 (mW a (up σ 1 29 0)) _ [.int (zI (bz (decide (0 < 0))))] 19
    refine V_ifd_eq (tgt := 24) dX11_stepOf_19 (by decide) (fun _ => ?_) (fun h => absurd h (by decide))
    have hcb := cc_b hM c_2
    have kb := cid_b hM hcb.1.1 hcb.1.2
    rw [hcb.2.1] at kb
    refine V_aload_n dX11_stepOf_24 rfl ?_
    refine V_callVF (As := []) (b := a 0) (hb := (show (mW a (up σ 1 29 0))[0]? = some (a 0, .inr (10, mF a (up σ 1 29 0))) from rfl)) (hc := (show vwCl[10]? = some (RX11, TX11, 30) from rfl)) hK (c_orders hE a (up σ 1 29 0) P ⟨hM, ((hP).up (by decide))⟩) mokX11_orders w1263 w1265 wps2_6 ⟨Nat.le_of_ble_eq_true rfl, Nat.le_of_ble_eq_true rfl⟩ rfl (Nat.le_of_ble_eq_true rfl) ⟨Nat.le_refl _, Nat.le_refl _⟩ dX11_stepOf_25 (fun v w p_7 => ?_)
    obtain ⟨σ_8, rfl, rfl, q_9, q_10⟩ := p_7
    show V K sX11_stepOf 0 0 (mW a σ_8) _ [] 28
    refine V_aload_n dX11_stepOf_28 rfl ?_
    refine mg_step rfl dX11_stepOf_29 ?_
    refine V_aload_n dX11_stepOf_32 rfl ?_
    refine V_iload_n dX11_stepOf_33 rfl ?_
    refine V_iload_n dX11_stepOf_34 rfl ?_
    refine V_iload_n dX11_stepOf_35 rfl ?_
    refine V_callVF (As := [.int (zI s0), .int (zI i), .int (zI j)]) (b := a 0) (hb := (show (mW a σ_8)[0]? = some (a 0, .inr (10, mF a σ_8)) from rfl)) (hc := (show vwCl[10]? = some (RX11, TX11, 30) from rfl)) hK (c_cell hE a σ_8 s0 i j P ⟨hM, ((((hP).up (by decide))).fr q_9 (by decide))⟩) mokX11_cell w1243 w1245 wps2_5 ⟨Nat.le_of_ble_eq_true rfl, Nat.le_of_ble_eq_true rfl⟩ rfl (Nat.le_of_ble_eq_true rfl) ⟨Nat.le_refl _, Nat.le_refl _⟩ dX11_stepOf_36 (fun v w p_11 => ?_)
    obtain ⟨rfl, rfl⟩ := p_11
    show V K sX11_stepOf 0 0 (mW a σ_8) _ [.int (zI (64 * s0 + i * P 0 1 + j)), .ref (a 17)] 39
    refine ml_step ⟨by omega, by omega⟩ dX11_stepOf_39 ?_
    refine V_iret hR rfl (Nat.le_refl _) (Nat.le_refl _) dX11_stepOf_40 ?_
    exact pub (gd_t c_2) (ziE (by rw [← hcb.2.1]; exact q_10.1 _ hcb.1.1 hcb.1.2)) ((congrFun (q_9 1 (by decide)) 29).trans (rfl)) ((((hP).up (by decide))).fr q_9 (by decide))
set_option maxRecDepth 100000 in
set_option maxHeartbeats 4000000 in
theorem c_statementAt {E : EV} (hE : Stb E) (a : Nat → Nat) (σ : St) (t : Int) (P : St) (hp : MI P ∧ PR P σ ∧ iR t) : MC E yX11_statementAt sX11_statementAt [.ref (a 0), .int (zI t)] (mW a σ) (fun v w => ∃ σ2 : St, v = some (.int (zI ((sp_statementAt P t).2.1))) ∧ w = mW a σ2 ∧ (σ2 1 29 = (sp_statementAt P t).1) ∧ (PR (sp_statementAt P t).2.2 σ2)) := by
  refine MC.of hE [some (.ref (a 0)), some (.int (zI t))] 0 rfl rfl rfl (by simp [Value.category]) (Nat.le_of_ble_eq_true rfl) (fun K hK hR => ?_)
  obtain ⟨hM, hP, hp⟩ := hp
  have e0 := hP 0 (by decide) (by decide)
  have f0 : ∀ i, σ 0 i = P 0 i := fun i => by rw [e0]
  have mR := hM.1
  have mC := hM.2.1
  have mN := hM.2.2.1
  have mp := hM.pts
  have ma := hM.als
  have gR := f0 0
  have gC := f0 1
  have gN := f0 2
  have hr := hp
  obtain ⟨r0a, r0b⟩ : iR t := hp
  refine V_aload_n dX11_statementAt_0 rfl ?_
  refine V_aload_n dX11_statementAt_1 rfl ?_
  refine V_iload_n dX11_statementAt_2 rfl ?_
  refine V_callVF (As := [.int (zI t)]) (b := a 0) (hb := (show (mW a σ)[0]? = some (a 0, .inr (10, mF a σ)) from rfl)) (hc := (show vwCl[10]? = some (RX11, TX11, 30) from rfl)) hK (c_isStep hE a σ t P ⟨hM, hP, by (try refine ⟨?_, ?_⟩) <;> omega⟩) mokX11_isStep w1283 w1285 wps2_8 ⟨Nat.le_of_ble_eq_true rfl, Nat.le_of_ble_eq_true rfl⟩ rfl (Nat.le_of_ble_eq_true rfl) ⟨Nat.le_refl _, Nat.le_refl _⟩ dX11_statementAt_3 (fun v w p_1 => ?_)
  obtain ⟨rfl, rfl⟩ := p_1
  show V K sX11_statementAt 0 0 (mW a σ) _ [.int (zI (bz (decide (0 ≤ t ∧ t < al P)))), .ref (a 0)] 6
  refine V_ifd_eq (tgt := 13) dX11_statementAt_6 (by decide) (fun c_2 => ?_) (fun c_2 => ?_)
  · refine V_iconst dX11_statementAt_13 ?_
    refine V_callVF (As := [.int (zI 1)]) (b := a 0) (hb := (show (mW a σ)[0]? = some (a 0, .inr (10, mF a σ)) from rfl)) (hc := (show vwCl[10]? = some (RX11, TX11, 30) from rfl)) hK (c_fails hE a σ 1 ⟨by omega, by omega⟩) mokX11_fails w1172 w1174 wps1_9 ⟨Nat.le_of_ble_eq_true rfl, Nat.le_of_ble_eq_true rfl⟩ rfl (Nat.le_of_ble_eq_true rfl) ⟨Nat.le_refl _, Nat.le_refl _⟩ dX11_statementAt_14 (fun v w p_3 => ?_)
    obtain ⟨rfl, rfl⟩ := p_3
    show V K sX11_statementAt 0 0 (mW a (up σ 1 29 1)) _ [.int (zI (bz (decide (0 < 1))))] 17
    refine V_ifd_eq (tgt := 22) dX11_statementAt_17 (by decide) (fun h => absurd (by decide) h) (fun _ => ?_)
    refine V_iconst dX11_statementAt_20 ?_
    refine V_iret hR rfl (Nat.le_refl _) (Nat.le_refl _) dX11_statementAt_21 ?_
    exact pub (gd_f c_2) rfl rfl ((hP).up (by decide))
  · refine V_iconst dX11_statementAt_9 ?_
    refine V_goto (tgt := 14) dX11_statementAt_10 (by decide) ?_
    refine V_callVF (As := [.int (zI 0)]) (b := a 0) (hb := (show (mW a σ)[0]? = some (a 0, .inr (10, mF a σ)) from rfl)) (hc := (show vwCl[10]? = some (RX11, TX11, 30) from rfl)) hK (c_fails hE a σ 0 ⟨by omega, by omega⟩) mokX11_fails w1172 w1174 wps1_9 ⟨Nat.le_of_ble_eq_true rfl, Nat.le_of_ble_eq_true rfl⟩ rfl (Nat.le_of_ble_eq_true rfl) ⟨Nat.le_refl _, Nat.le_refl _⟩ dX11_statementAt_14 (fun v w p_5 => ?_)
    obtain ⟨rfl, rfl⟩ := p_5
    show V K sX11_statementAt 0 0 (mW a (up σ 1 29 0)) _ [.int (zI (bz (decide (0 < 0))))] 17
    refine V_ifd_eq (tgt := 22) dX11_statementAt_17 (by decide) (fun _ => ?_) (fun h => absurd h (by decide))
    refine V_aload_n dX11_statementAt_22 rfl ?_
    refine V_callVF (As := []) (b := a 0) (hb := (show (mW a (up σ 1 29 0))[0]? = some (a 0, .inr (10, mF a (up σ 1 29 0))) from rfl)) (hc := (show vwCl[10]? = some (RX11, TX11, 30) from rfl)) hK (c_orders hE a (up σ 1 29 0) P ⟨hM, ((hP).up (by decide))⟩) mokX11_orders w1263 w1265 wps2_6 ⟨Nat.le_of_ble_eq_true rfl, Nat.le_of_ble_eq_true rfl⟩ rfl (Nat.le_of_ble_eq_true rfl) ⟨Nat.le_refl _, Nat.le_refl _⟩ dX11_statementAt_23 (fun v w p_7 => ?_)
    obtain ⟨σ_8, rfl, rfl, q_9, q_10⟩ := p_7
    show V K sX11_statementAt 0 0 (mW a σ_8) _ [] 26
    have kc := ac_spec (bw := P 0 11) (cw := P 0 12) c_2.1 c_2.2
    have kd := cid_b hM kc.1 kc.2.1
    refine V_aload_n dX11_statementAt_26 rfl ?_
    refine mg_cellAt rfl dX11_statementAt_27 ?_
    refine V_iload_n dX11_statementAt_30 rfl ?_
    refine ml_cellAt ⟨by omega, by omega⟩ dX11_statementAt_31 ?_
    refine V_eqT (y := zI (cid P (ac P (P 0 11) (P 0 12) t))) (by rw [q_10.at c_2.1 c_2.2]) ?_
    refine V_bipush dX11_statementAt_32 (by decide) ?_
    refine V_idiv dX11_statementAt_34 ⟨⟨by omega, by omega⟩, ⟨by omega, by omega⟩, by omega, by omega⟩ ?_
    refine V_iret hR rfl (Nat.le_refl _) (Nat.le_refl _) dX11_statementAt_35 ?_
    exact pub (gd_t c_2) (ziE (by rw [kd.2.1])) ((congrFun (q_9 1 (by decide)) 29).trans (rfl)) ((((hP).up (by decide))).fr q_9 (by decide))
set_option maxRecDepth 100000 in
set_option maxHeartbeats 4000000 in
theorem c_pointAt {E : EV} (hE : Stb E) (a : Nat → Nat) (σ : St) (t : Int) (P : St) (hp : MI P ∧ PR P σ ∧ iR t) : MC E yX11_pointAt sX11_pointAt [.ref (a 0), .int (zI t)] (mW a σ) (fun v w => ∃ σ2 : St, v = some (.int (zI ((sp_pointAt P t).2.1))) ∧ w = mW a σ2 ∧ (σ2 1 29 = (sp_pointAt P t).1) ∧ (PR (sp_pointAt P t).2.2 σ2)) := by
  refine MC.of hE [some (.ref (a 0)), some (.int (zI t))] 0 rfl rfl rfl (by simp [Value.category]) (Nat.le_of_ble_eq_true rfl) (fun K hK hR => ?_)
  obtain ⟨hM, hP, hp⟩ := hp
  have e0 := hP 0 (by decide) (by decide)
  have f0 : ∀ i, σ 0 i = P 0 i := fun i => by rw [e0]
  have mR := hM.1
  have mC := hM.2.1
  have mN := hM.2.2.1
  have mp := hM.pts
  have ma := hM.als
  have gR := f0 0
  have gC := f0 1
  have gN := f0 2
  have hr := hp
  obtain ⟨r0a, r0b⟩ : iR t := hp
  refine V_aload_n dX11_pointAt_0 rfl ?_
  refine V_aload_n dX11_pointAt_1 rfl ?_
  refine V_iload_n dX11_pointAt_2 rfl ?_
  refine V_callVF (As := [.int (zI t)]) (b := a 0) (hb := (show (mW a σ)[0]? = some (a 0, .inr (10, mF a σ)) from rfl)) (hc := (show vwCl[10]? = some (RX11, TX11, 30) from rfl)) hK (c_isStep hE a σ t P ⟨hM, hP, by (try refine ⟨?_, ?_⟩) <;> omega⟩) mokX11_isStep w1283 w1285 wps2_8 ⟨Nat.le_of_ble_eq_true rfl, Nat.le_of_ble_eq_true rfl⟩ rfl (Nat.le_of_ble_eq_true rfl) ⟨Nat.le_refl _, Nat.le_refl _⟩ dX11_pointAt_3 (fun v w p_1 => ?_)
  obtain ⟨rfl, rfl⟩ := p_1
  show V K sX11_pointAt 0 0 (mW a σ) _ [.int (zI (bz (decide (0 ≤ t ∧ t < al P)))), .ref (a 0)] 6
  refine V_ifd_eq (tgt := 13) dX11_pointAt_6 (by decide) (fun c_2 => ?_) (fun c_2 => ?_)
  · refine V_iconst dX11_pointAt_13 ?_
    refine V_callVF (As := [.int (zI 1)]) (b := a 0) (hb := (show (mW a σ)[0]? = some (a 0, .inr (10, mF a σ)) from rfl)) (hc := (show vwCl[10]? = some (RX11, TX11, 30) from rfl)) hK (c_fails hE a σ 1 ⟨by omega, by omega⟩) mokX11_fails w1172 w1174 wps1_9 ⟨Nat.le_of_ble_eq_true rfl, Nat.le_of_ble_eq_true rfl⟩ rfl (Nat.le_of_ble_eq_true rfl) ⟨Nat.le_refl _, Nat.le_refl _⟩ dX11_pointAt_14 (fun v w p_3 => ?_)
    obtain ⟨rfl, rfl⟩ := p_3
    show V K sX11_pointAt 0 0 (mW a (up σ 1 29 1)) _ [.int (zI (bz (decide (0 < 1))))] 17
    refine V_ifd_eq (tgt := 22) dX11_pointAt_17 (by decide) (fun h => absurd (by decide) h) (fun _ => ?_)
    refine V_iconst dX11_pointAt_20 ?_
    refine V_iret hR rfl (Nat.le_refl _) (Nat.le_refl _) dX11_pointAt_21 ?_
    exact pub (gd_f c_2) rfl rfl ((hP).up (by decide))
  · refine V_iconst dX11_pointAt_9 ?_
    refine V_goto (tgt := 14) dX11_pointAt_10 (by decide) ?_
    refine V_callVF (As := [.int (zI 0)]) (b := a 0) (hb := (show (mW a σ)[0]? = some (a 0, .inr (10, mF a σ)) from rfl)) (hc := (show vwCl[10]? = some (RX11, TX11, 30) from rfl)) hK (c_fails hE a σ 0 ⟨by omega, by omega⟩) mokX11_fails w1172 w1174 wps1_9 ⟨Nat.le_of_ble_eq_true rfl, Nat.le_of_ble_eq_true rfl⟩ rfl (Nat.le_of_ble_eq_true rfl) ⟨Nat.le_refl _, Nat.le_refl _⟩ dX11_pointAt_14 (fun v w p_5 => ?_)
    obtain ⟨rfl, rfl⟩ := p_5
    show V K sX11_pointAt 0 0 (mW a (up σ 1 29 0)) _ [.int (zI (bz (decide (0 < 0))))] 17
    refine V_ifd_eq (tgt := 22) dX11_pointAt_17 (by decide) (fun _ => ?_) (fun h => absurd h (by decide))
    refine V_aload_n dX11_pointAt_22 rfl ?_
    refine V_callVF (As := []) (b := a 0) (hb := (show (mW a (up σ 1 29 0))[0]? = some (a 0, .inr (10, mF a (up σ 1 29 0))) from rfl)) (hc := (show vwCl[10]? = some (RX11, TX11, 30) from rfl)) hK (c_orders hE a (up σ 1 29 0) P ⟨hM, ((hP).up (by decide))⟩) mokX11_orders w1263 w1265 wps2_6 ⟨Nat.le_of_ble_eq_true rfl, Nat.le_of_ble_eq_true rfl⟩ rfl (Nat.le_of_ble_eq_true rfl) ⟨Nat.le_refl _, Nat.le_refl _⟩ dX11_pointAt_23 (fun v w p_7 => ?_)
    obtain ⟨σ_8, rfl, rfl, q_9, q_10⟩ := p_7
    show V K sX11_pointAt 0 0 (mW a σ_8) _ [] 26
    have kc := ac_spec (bw := P 0 11) (cw := P 0 12) c_2.1 c_2.2
    have kd := cid_b hM kc.1 kc.2.1
    refine V_aload_n dX11_pointAt_26 rfl ?_
    refine mg_cellAt rfl dX11_pointAt_27 ?_
    refine V_iload_n dX11_pointAt_30 rfl ?_
    refine ml_cellAt ⟨by omega, by omega⟩ dX11_pointAt_31 ?_
    refine V_eqT (y := zI (cid P (ac P (P 0 11) (P 0 12) t))) (by rw [q_10.at c_2.1 c_2.2]) ?_
    refine V_bipush dX11_pointAt_32 (by decide) ?_
    refine V_iremN dX11_pointAt_34 ⟨⟨by omega, by omega⟩, ⟨by omega, by omega⟩, by omega, by omega⟩ ?_
    refine V_iret hR rfl (Nat.le_refl _) (Nat.le_refl _) dX11_pointAt_35 ?_
    exact pub (gd_t c_2) (ziE (by rw [kd.2.2])) ((congrFun (q_9 1 (by decide)) 29).trans (rfl)) ((((hP).up (by decide))).fr q_9 (by decide))
set_option maxRecDepth 100000 in
set_option maxHeartbeats 4000000 in
theorem c_endOf {E : EV} (hE : Stb E) (a : Nat → Nat) (σ : St) (s0 : Int) (i : Int) (j : Int) (P : St) (hp : MI P ∧ PR P σ ∧ iR s0 ∧ iR i ∧ iR j) : MC E yX11_endOf sX11_endOf [.ref (a 0), .int (zI s0), .int (zI i), .int (zI j)] (mW a σ) (fun v w => ∃ σ2 : St, v = some (.int (zI ((sp_endOf P s0 i j).2.1))) ∧ w = mW a σ2 ∧ (σ2 1 29 = (sp_endOf P s0 i j).1) ∧ (PR (sp_endOf P s0 i j).2.2 σ2)) := by
  refine MC.of hE [some (.ref (a 0)), some (.int (zI s0)), some (.int (zI i)), some (.int (zI j))] 0 rfl rfl rfl (by simp [Value.category]) (Nat.le_of_ble_eq_true rfl) (fun K hK hR => ?_)
  obtain ⟨hM, hP, hp⟩ := hp
  have e0 := hP 0 (by decide) (by decide)
  have f0 : ∀ i, σ 0 i = P 0 i := fun i => by rw [e0]
  have mR := hM.1
  have mC := hM.2.1
  have mN := hM.2.2.1
  have mp := hM.pts
  have ma := hM.als
  have gR := f0 0
  have gC := f0 1
  have gN := f0 2
  have hr := hp
  obtain ⟨r0a, r0b⟩ : iR s0 := hp.1
  obtain ⟨r1a, r1b⟩ : iR i := hp.2.1
  obtain ⟨r2a, r2b⟩ : iR j := hp.2.2
  refine V_aload_n dX11_endOf_0 rfl ?_
  refine V_aload_n dX11_endOf_1 rfl ?_
  refine V_iload_n dX11_endOf_2 rfl ?_
  refine V_iload_n dX11_endOf_3 rfl ?_
  refine V_iload_n dX11_endOf_4 rfl ?_
  refine V_callVF (As := [.int (zI s0), .int (zI i), .int (zI j)]) (b := a 0) (hb := (show (mW a σ)[0]? = some (a 0, .inr (10, mF a σ)) from rfl)) (hc := (show vwCl[10]? = some (RX11, TX11, 30) from rfl)) hK (c_isCell hE a σ s0 i j P ⟨hM, hP, by refine ⟨?_, ?_, ?_⟩ <;> (try refine ⟨?_, ?_⟩) <;> omega⟩) mokX11_isCell w1275 w1277 wps2_7 ⟨Nat.le_of_ble_eq_true rfl, Nat.le_of_ble_eq_true rfl⟩ rfl (Nat.le_of_ble_eq_true rfl) ⟨Nat.le_refl _, Nat.le_refl _⟩ dX11_endOf_5 (fun v w p_1 => ?_)
  obtain ⟨rfl, rfl⟩ := p_1
  show V K sX11_endOf 0 0 (mW a σ) _ [.int (zI (bz (decide ((0 ≤ s0 ∧ s0 < P 0 2) ∧ 0 ≤ i ∧ i < P 0 0 ∧ 0 ≤ j ∧ j < P 0 1)))), .ref (a 0)] 8
  refine V_ifd_eq (tgt := 15) dX11_endOf_8 (by decide) (fun c_2 => ?_) (fun c_2 => ?_)
  · refine V_iconst dX11_endOf_15 ?_
    refine V_callVF (As := [.int (zI 1)]) (b := a 0) (hb := (show (mW a σ)[0]? = some (a 0, .inr (10, mF a σ)) from rfl)) (hc := (show vwCl[10]? = some (RX11, TX11, 30) from rfl)) hK (c_fails hE a σ 1 ⟨by omega, by omega⟩) mokX11_fails w1172 w1174 wps1_9 ⟨Nat.le_of_ble_eq_true rfl, Nat.le_of_ble_eq_true rfl⟩ rfl (Nat.le_of_ble_eq_true rfl) ⟨Nat.le_refl _, Nat.le_refl _⟩ dX11_endOf_16 (fun v w p_3 => ?_)
    obtain ⟨rfl, rfl⟩ := p_3
    show V K sX11_endOf 0 0 (mW a (up σ 1 29 1)) _ [.int (zI (bz (decide (0 < 1))))] 19
    refine V_ifd_eq (tgt := 24) dX11_endOf_19 (by decide) (fun h => absurd (by decide) h) (fun _ => ?_)
    refine V_iconst dX11_endOf_22 ?_
    refine V_iret hR rfl (Nat.le_refl _) (Nat.le_refl _) dX11_endOf_23 ?_
    exact pub (gd_f c_2) rfl rfl ((hP).up (by decide))
  · refine V_iconst dX11_endOf_11 ?_
    refine V_goto (tgt := 16) dX11_endOf_12 (by decide) ?_
    refine V_callVF (As := [.int (zI 0)]) (b := a 0) (hb := (show (mW a σ)[0]? = some (a 0, .inr (10, mF a σ)) from rfl)) (hc := (show vwCl[10]? = some (RX11, TX11, 30) from rfl)) hK (c_fails hE a σ 0 ⟨by omega, by omega⟩) mokX11_fails w1172 w1174 wps1_9 ⟨Nat.le_of_ble_eq_true rfl, Nat.le_of_ble_eq_true rfl⟩ rfl (Nat.le_of_ble_eq_true rfl) ⟨Nat.le_refl _, Nat.le_refl _⟩ dX11_endOf_16 (fun v w p_5 => ?_)
    obtain ⟨rfl, rfl⟩ := p_5
    show V K sX11_endOf 0 0 (mW a (up σ 1 29 0)) _ [.int (zI (bz (decide (0 < 0))))] 19
    refine V_ifd_eq (tgt := 24) dX11_endOf_19 (by decide) (fun _ => ?_) (fun h => absurd h (by decide))
    have hcb := cc_b hM c_2
    have kb := cid_b hM hcb.1.1 hcb.1.2
    rw [hcb.2.1] at kb
    refine V_aload_n dX11_endOf_24 rfl ?_
    refine V_callVF (As := []) (b := a 0) (hb := (show (mW a (up σ 1 29 0))[0]? = some (a 0, .inr (10, mF a (up σ 1 29 0))) from rfl)) (hc := (show vwCl[10]? = some (RX11, TX11, 30) from rfl)) hK (c_finds hE a (up σ 1 29 0) P ⟨hM, ((hP).up (by decide))⟩) mokX11_finds w1295 w1297 wps2_9 ⟨Nat.le_of_ble_eq_true rfl, Nat.le_of_ble_eq_true rfl⟩ rfl (Nat.le_of_ble_eq_true rfl) ⟨Nat.le_refl _, Nat.le_refl _⟩ dX11_endOf_25 (fun v w p_7 => ?_)
    obtain ⟨σ_8, rfl, rfl, q_9, q_10, q_11⟩ := p_7
    show V K sX11_endOf 0 0 (mW a σ_8) _ [] 28
    refine V_aload_n dX11_endOf_28 rfl ?_
    refine mg_end rfl dX11_endOf_29 ?_
    refine V_aload_n dX11_endOf_32 rfl ?_
    refine V_iload_n dX11_endOf_33 rfl ?_
    refine V_iload_n dX11_endOf_34 rfl ?_
    refine V_iload_n dX11_endOf_35 rfl ?_
    refine V_callVF (As := [.int (zI s0), .int (zI i), .int (zI j)]) (b := a 0) (hb := (show (mW a σ_8)[0]? = some (a 0, .inr (10, mF a σ_8)) from rfl)) (hc := (show vwCl[10]? = some (RX11, TX11, 30) from rfl)) hK (c_cell hE a σ_8 s0 i j P ⟨hM, ((((hP).up (by decide))).fr q_9 (by decide))⟩) mokX11_cell w1243 w1245 wps2_5 ⟨Nat.le_of_ble_eq_true rfl, Nat.le_of_ble_eq_true rfl⟩ rfl (Nat.le_of_ble_eq_true rfl) ⟨Nat.le_refl _, Nat.le_refl _⟩ dX11_endOf_36 (fun v w p_12 => ?_)
    obtain ⟨rfl, rfl⟩ := p_12
    show V K sX11_endOf 0 0 (mW a σ_8) _ [.int (zI (64 * s0 + i * P 0 1 + j)), .ref (a 19)] 39
    refine ml_end ⟨by omega, by omega⟩ dX11_endOf_39 ?_
    refine V_iret hR rfl (Nat.le_refl _) (Nat.le_refl _) dX11_endOf_40 ?_
    exact pub (gd_t c_2) (ziE (by rw [← hcb.2.1]; exact q_11 _ hcb.1.1 hcb.1.2)) ((congrFun (q_9 1 (by decide)) 29).trans (rfl)) ((((hP).up (by decide))).fr q_9 (by decide))
set_option maxRecDepth 100000 in
set_option maxHeartbeats 4000000 in
theorem c_liveAt {E : EV} (hE : Stb E) (a : Nat → Nat) (σ : St) (t : Int) (P : St) (hp : MI P ∧ PR P σ ∧ iR t) : MC E yX11_liveAt sX11_liveAt [.ref (a 0), .int (zI t)] (mW a σ) (fun v w => ∃ σ2 : St, v = some (.int (zI ((sp_liveAt P t).2.1))) ∧ w = mW a σ2 ∧ (σ2 1 29 = (sp_liveAt P t).1) ∧ (PR (sp_liveAt P t).2.2 σ2)) := by
  refine MC.of hE [some (.ref (a 0)), some (.int (zI t))] 0 rfl rfl rfl (by simp [Value.category]) (Nat.le_of_ble_eq_true rfl) (fun K hK hR => ?_)
  obtain ⟨hM, hP, hp⟩ := hp
  have e0 := hP 0 (by decide) (by decide)
  have f0 : ∀ i, σ 0 i = P 0 i := fun i => by rw [e0]
  have mR := hM.1
  have mC := hM.2.1
  have mN := hM.2.2.1
  have mp := hM.pts
  have ma := hM.als
  have gR := f0 0
  have gC := f0 1
  have gN := f0 2
  have hr := hp
  obtain ⟨r0a, r0b⟩ : iR t := hp
  refine V_aload_n dX11_liveAt_0 rfl ?_
  refine V_aload_n dX11_liveAt_1 rfl ?_
  refine V_iload_n dX11_liveAt_2 rfl ?_
  refine V_callVF (As := [.int (zI t)]) (b := a 0) (hb := (show (mW a σ)[0]? = some (a 0, .inr (10, mF a σ)) from rfl)) (hc := (show vwCl[10]? = some (RX11, TX11, 30) from rfl)) hK (c_isStep hE a σ t P ⟨hM, hP, by (try refine ⟨?_, ?_⟩) <;> omega⟩) mokX11_isStep w1283 w1285 wps2_8 ⟨Nat.le_of_ble_eq_true rfl, Nat.le_of_ble_eq_true rfl⟩ rfl (Nat.le_of_ble_eq_true rfl) ⟨Nat.le_refl _, Nat.le_refl _⟩ dX11_liveAt_3 (fun v w p_1 => ?_)
  obtain ⟨rfl, rfl⟩ := p_1
  show V K sX11_liveAt 0 0 (mW a σ) _ [.int (zI (bz (decide (0 ≤ t ∧ t < al P)))), .ref (a 0)] 6
  refine V_ifd_eq (tgt := 13) dX11_liveAt_6 (by decide) (fun c_2 => ?_) (fun c_2 => ?_)
  · refine V_iconst dX11_liveAt_13 ?_
    refine V_callVF (As := [.int (zI 1)]) (b := a 0) (hb := (show (mW a σ)[0]? = some (a 0, .inr (10, mF a σ)) from rfl)) (hc := (show vwCl[10]? = some (RX11, TX11, 30) from rfl)) hK (c_fails hE a σ 1 ⟨by omega, by omega⟩) mokX11_fails w1172 w1174 wps1_9 ⟨Nat.le_of_ble_eq_true rfl, Nat.le_of_ble_eq_true rfl⟩ rfl (Nat.le_of_ble_eq_true rfl) ⟨Nat.le_refl _, Nat.le_refl _⟩ dX11_liveAt_14 (fun v w p_3 => ?_)
    obtain ⟨rfl, rfl⟩ := p_3
    show V K sX11_liveAt 0 0 (mW a (up σ 1 29 1)) _ [.int (zI (bz (decide (0 < 1))))] 17
    refine V_ifd_eq (tgt := 24) dX11_liveAt_17 (by decide) (fun h => absurd (by decide) h) (fun _ => ?_)
    refine V_iconst dX11_liveAt_20 ?_
    refine V_goto (tgt := 30) dX11_liveAt_21 (by decide) ?_
    refine V_iret hR rfl (Nat.le_refl _) (Nat.le_refl _) dX11_liveAt_30 ?_
    exact pub (gd_f c_2) rfl rfl ((hP).up (by decide))
  · refine V_iconst dX11_liveAt_9 ?_
    refine V_goto (tgt := 14) dX11_liveAt_10 (by decide) ?_
    refine V_callVF (As := [.int (zI 0)]) (b := a 0) (hb := (show (mW a σ)[0]? = some (a 0, .inr (10, mF a σ)) from rfl)) (hc := (show vwCl[10]? = some (RX11, TX11, 30) from rfl)) hK (c_fails hE a σ 0 ⟨by omega, by omega⟩) mokX11_fails w1172 w1174 wps1_9 ⟨Nat.le_of_ble_eq_true rfl, Nat.le_of_ble_eq_true rfl⟩ rfl (Nat.le_of_ble_eq_true rfl) ⟨Nat.le_refl _, Nat.le_refl _⟩ dX11_liveAt_14 (fun v w p_5 => ?_)
    obtain ⟨rfl, rfl⟩ := p_5
    show V K sX11_liveAt 0 0 (mW a (up σ 1 29 0)) _ [.int (zI (bz (decide (0 < 0))))] 17
    refine V_ifd_eq (tgt := 24) dX11_liveAt_17 (by decide) (fun _ => ?_) (fun h => absurd h (by decide))
    refine V_aload_n dX11_liveAt_24 rfl ?_
    refine V_iconst dX11_liveAt_25 ?_
    refine V_iload_n dX11_liveAt_26 rfl ?_
    refine V_callVF (As := [.int (zI (-1)), .int (zI t)]) (b := a 0) (hb := (show (mW a (up σ 1 29 0))[0]? = some (a 0, .inr (10, mF a (up σ 1 29 0))) from rfl)) (hc := (show vwCl[10]? = some (RX11, TX11, 30) from rfl)) hK (c_most hE a (up σ 1 29 0) (-1) t P ⟨hM, ((hP).up (by decide)), by refine ⟨?_, ?_⟩ <;> (try refine ⟨?_, ?_⟩) <;> omega⟩) mokX11_most w1307 w1309 wps2_11 ⟨Nat.le_of_ble_eq_true rfl, Nat.le_of_ble_eq_true rfl⟩ rfl (Nat.le_of_ble_eq_true rfl) ⟨Nat.le_refl _, Nat.le_refl _⟩ dX11_liveAt_27 (fun v w p_7 => ?_)
    obtain ⟨σ_8, rfl, rfl, q_9⟩ := p_7
    show V K sX11_liveAt 0 0 (mW a σ_8) _ [.int (zI (if t < 0 then mxv (lvN P (P 0 11) (P 0 12) (selS P (-1))) (al P) else lvN P (P 0 11) (P 0 12) (selS P (-1)) t))] 30
    refine V_iret hR rfl (Nat.le_refl _) (Nat.le_refl _) dX11_liveAt_30 ?_
    exact pub (gd_t c_2) (ziE (if_neg (by omega))) ((congrFun (q_9 1 (by decide)) 29).trans (rfl)) ((((hP).up (by decide))).fr q_9 (by decide))
set_option maxRecDepth 100000 in
set_option maxHeartbeats 4000000 in
theorem c_mostLive {E : EV} (hE : Stb E) (a : Nat → Nat) (σ : St) (P : St) (hp : MI P ∧ PR P σ) : MC E yX11_mostLive sX11_mostLive [.ref (a 0)] (mW a σ) (fun v w => ∃ σ2 : St, v = some (.int (zI ((sp_mostLive P).2.1))) ∧ w = mW a σ2 ∧ (σ2 1 29 = (sp_mostLive P).1) ∧ (PR (sp_mostLive P).2.2 σ2)) := by
  refine MC.of hE [some (.ref (a 0))] 0 rfl rfl rfl (by simp [Value.category]) (Nat.le_of_ble_eq_true rfl) (fun K hK hR => ?_)
  obtain ⟨hM, hP⟩ := hp
  have e0 := hP 0 (by decide) (by decide)
  have f0 : ∀ i, σ 0 i = P 0 i := fun i => by rw [e0]
  have mR := hM.1
  have mC := hM.2.1
  have mN := hM.2.2.1
  have mp := hM.pts
  have ma := hM.als
  have gR := f0 0
  have gC := f0 1
  have gN := f0 2
  refine V_aload_n dX11_mostLive_0 rfl ?_
  refine V_iconst dX11_mostLive_1 ?_
  refine mp_thrown rfl dX11_mostLive_2 ?_
  refine V_aload_n dX11_mostLive_5 rfl ?_
  refine V_iconst dX11_mostLive_6 ?_
  refine V_iconst dX11_mostLive_7 ?_
  refine V_callVF (As := [.int (zI (-1)), .int (zI (-1))]) (b := a 0) (hb := (show (mW a (up σ 1 29 0))[0]? = some (a 0, .inr (10, mF a (up σ 1 29 0))) from rfl)) (hc := (show vwCl[10]? = some (RX11, TX11, 30) from rfl)) hK (c_most hE a (up σ 1 29 0) (-1) (-1) P ⟨hM, ((hP).up (by decide)), by refine ⟨?_, ?_⟩ <;> (try refine ⟨?_, ?_⟩) <;> omega⟩) mokX11_most w1307 w1309 wps2_11 ⟨Nat.le_of_ble_eq_true rfl, Nat.le_of_ble_eq_true rfl⟩ rfl (Nat.le_of_ble_eq_true rfl) ⟨Nat.le_refl _, Nat.le_refl _⟩ dX11_mostLive_8 (fun v w p_1 => ?_)
  obtain ⟨σ_2, rfl, rfl, q_3⟩ := p_1
  show V K sX11_mostLive 0 0 (mW a σ_2) _ [.int (zI (if (-1) < 0 then mxv (lvN P (P 0 11) (P 0 12) (selS P (-1))) (al P) else lvN P (P 0 11) (P 0 12) (selS P (-1)) (-1)))] 11
  refine V_iret hR rfl (Nat.le_refl _) (Nat.le_refl _) dX11_mostLive_11 ?_
  exact pub rfl (ziE (if_pos (by decide))) ((congrFun (q_3 1 (by decide)) 29).trans (rfl)) ((((hP).up (by decide))).fr q_3 (by decide))
set_option maxRecDepth 100000 in
set_option maxHeartbeats 4000000 in
theorem c_mostLiveOf {E : EV} (hE : Stb E) (a : Nat → Nat) (σ : St) (s0 : Int) (P : St) (hp : MI P ∧ PR P σ ∧ iR s0) : MC E yX11_mostLiveOf sX11_mostLiveOf [.ref (a 0), .int (zI s0)] (mW a σ) (fun v w => ∃ σ2 : St, v = some (.int (zI ((sp_mostLiveOf P s0).2.1))) ∧ w = mW a σ2 ∧ (σ2 1 29 = (sp_mostLiveOf P s0).1) ∧ (PR (sp_mostLiveOf P s0).2.2 σ2)) := by
  refine MC.of hE [some (.ref (a 0)), some (.int (zI s0))] 0 rfl rfl rfl (by simp [Value.category]) (Nat.le_of_ble_eq_true rfl) (fun K hK hR => ?_)
  obtain ⟨hM, hP, hp⟩ := hp
  have e0 := hP 0 (by decide) (by decide)
  have f0 : ∀ i, σ 0 i = P 0 i := fun i => by rw [e0]
  have mR := hM.1
  have mC := hM.2.1
  have mN := hM.2.2.1
  have mp := hM.pts
  have ma := hM.als
  have gR := f0 0
  have gC := f0 1
  have gN := f0 2
  have hr := hp
  obtain ⟨r0a, r0b⟩ : iR s0 := hp
  refine V_aload_n dX11_mostLiveOf_0 rfl ?_
  refine V_aload_n dX11_mostLiveOf_1 rfl ?_
  refine V_iload_n dX11_mostLiveOf_2 rfl ?_
  refine V_callVF (As := [.int (zI s0)]) (b := a 0) (hb := (show (mW a σ)[0]? = some (a 0, .inr (10, mF a σ)) from rfl)) (hc := (show vwCl[10]? = some (RX11, TX11, 30) from rfl)) hK (c_is hE a σ s0 P ⟨hM, hP, by (try refine ⟨?_, ?_⟩) <;> omega⟩) mokX11_is w1180 w1182 wps1_10 ⟨Nat.le_of_ble_eq_true rfl, Nat.le_of_ble_eq_true rfl⟩ rfl (Nat.le_of_ble_eq_true rfl) ⟨Nat.le_refl _, Nat.le_refl _⟩ dX11_mostLiveOf_3 (fun v w p_1 => ?_)
  obtain ⟨rfl, rfl⟩ := p_1
  show V K sX11_mostLiveOf 0 0 (mW a σ) _ [.int (zI (bz (decide (0 ≤ s0 ∧ s0 < P 0 2)))), .ref (a 0)] 6
  refine V_ifd_eq (tgt := 13) dX11_mostLiveOf_6 (by decide) (fun c_2 => ?_) (fun c_2 => ?_)
  · refine V_iconst dX11_mostLiveOf_13 ?_
    refine V_callVF (As := [.int (zI 1)]) (b := a 0) (hb := (show (mW a σ)[0]? = some (a 0, .inr (10, mF a σ)) from rfl)) (hc := (show vwCl[10]? = some (RX11, TX11, 30) from rfl)) hK (c_fails hE a σ 1 ⟨by omega, by omega⟩) mokX11_fails w1172 w1174 wps1_9 ⟨Nat.le_of_ble_eq_true rfl, Nat.le_of_ble_eq_true rfl⟩ rfl (Nat.le_of_ble_eq_true rfl) ⟨Nat.le_refl _, Nat.le_refl _⟩ dX11_mostLiveOf_14 (fun v w p_3 => ?_)
    obtain ⟨rfl, rfl⟩ := p_3
    show V K sX11_mostLiveOf 0 0 (mW a (up σ 1 29 1)) _ [.int (zI (bz (decide (0 < 1))))] 17
    refine V_ifd_eq (tgt := 24) dX11_mostLiveOf_17 (by decide) (fun h => absurd (by decide) h) (fun _ => ?_)
    refine V_iconst dX11_mostLiveOf_20 ?_
    refine V_goto (tgt := 30) dX11_mostLiveOf_21 (by decide) ?_
    refine V_iret hR rfl (Nat.le_refl _) (Nat.le_refl _) dX11_mostLiveOf_30 ?_
    exact pub (gd_f c_2) rfl rfl ((hP).up (by decide))
  · refine V_iconst dX11_mostLiveOf_9 ?_
    refine V_goto (tgt := 14) dX11_mostLiveOf_10 (by decide) ?_
    refine V_callVF (As := [.int (zI 0)]) (b := a 0) (hb := (show (mW a σ)[0]? = some (a 0, .inr (10, mF a σ)) from rfl)) (hc := (show vwCl[10]? = some (RX11, TX11, 30) from rfl)) hK (c_fails hE a σ 0 ⟨by omega, by omega⟩) mokX11_fails w1172 w1174 wps1_9 ⟨Nat.le_of_ble_eq_true rfl, Nat.le_of_ble_eq_true rfl⟩ rfl (Nat.le_of_ble_eq_true rfl) ⟨Nat.le_refl _, Nat.le_refl _⟩ dX11_mostLiveOf_14 (fun v w p_5 => ?_)
    obtain ⟨rfl, rfl⟩ := p_5
    show V K sX11_mostLiveOf 0 0 (mW a (up σ 1 29 0)) _ [.int (zI (bz (decide (0 < 0))))] 17
    refine V_ifd_eq (tgt := 24) dX11_mostLiveOf_17 (by decide) (fun _ => ?_) (fun h => absurd h (by decide))
    refine V_aload_n dX11_mostLiveOf_24 rfl ?_
    refine V_iload_n dX11_mostLiveOf_25 rfl ?_
    refine V_iconst dX11_mostLiveOf_26 ?_
    refine V_callVF (As := [.int (zI s0), .int (zI (-1))]) (b := a 0) (hb := (show (mW a (up σ 1 29 0))[0]? = some (a 0, .inr (10, mF a (up σ 1 29 0))) from rfl)) (hc := (show vwCl[10]? = some (RX11, TX11, 30) from rfl)) hK (c_most hE a (up σ 1 29 0) s0 (-1) P ⟨hM, ((hP).up (by decide)), by refine ⟨?_, ?_⟩ <;> (try refine ⟨?_, ?_⟩) <;> omega⟩) mokX11_most w1307 w1309 wps2_11 ⟨Nat.le_of_ble_eq_true rfl, Nat.le_of_ble_eq_true rfl⟩ rfl (Nat.le_of_ble_eq_true rfl) ⟨Nat.le_refl _, Nat.le_refl _⟩ dX11_mostLiveOf_27 (fun v w p_7 => ?_)
    obtain ⟨σ_8, rfl, rfl, q_9⟩ := p_7
    show V K sX11_mostLiveOf 0 0 (mW a σ_8) _ [.int (zI (if (-1) < 0 then mxv (lvN P (P 0 11) (P 0 12) (selS P s0)) (al P) else lvN P (P 0 11) (P 0 12) (selS P s0) (-1)))] 30
    refine V_iret hR rfl (Nat.le_refl _) (Nat.le_refl _) dX11_mostLiveOf_30 ?_
    exact pub (gd_t c_2) (ziE (if_pos (by decide))) ((congrFun (q_9 1 (by decide)) 29).trans (rfl)) ((((hP).up (by decide))).fr q_9 (by decide))
set_option maxRecDepth 100000 in
set_option maxHeartbeats 4000000 in
theorem c_conflictsOf {E : EV} (hE : Stb E) (a : Nat → Nat) (σ : St) (s0 : Int) (i : Int) (j : Int) (o0 : Int) (P : St) (hp : MI P ∧ PR P σ ∧ iR s0 ∧ iR i ∧ iR j ∧ iR o0) : MC E yX11_conflictsOf sX11_conflictsOf [.ref (a 0), .int (zI s0), .int (zI i), .int (zI j), .int (zI o0)] (mW a σ) (fun v w => ∃ σ2 : St, v = some (.int (zI ((sp_conflictsOf P s0 i j o0).2.1))) ∧ w = mW a σ2 ∧ (σ2 1 29 = (sp_conflictsOf P s0 i j o0).1) ∧ (PR (sp_conflictsOf P s0 i j o0).2.2 σ2)) := by
  refine MC.of hE [some (.ref (a 0)), some (.int (zI s0)), some (.int (zI i)), some (.int (zI j)), some (.int (zI o0))] 0 rfl rfl rfl (by simp [Value.category]) (Nat.le_of_ble_eq_true rfl) (fun K hK hR => ?_)
  obtain ⟨hM, hP, hp⟩ := hp
  have e0 := hP 0 (by decide) (by decide)
  have f0 : ∀ i, σ 0 i = P 0 i := fun i => by rw [e0]
  have mR := hM.1
  have mC := hM.2.1
  have mN := hM.2.2.1
  have mp := hM.pts
  have ma := hM.als
  have gR := f0 0
  have gC := f0 1
  have gN := f0 2
  have hr := hp
  obtain ⟨r0a, r0b⟩ : iR s0 := hp.1
  obtain ⟨r1a, r1b⟩ : iR i := hp.2.1
  obtain ⟨r2a, r2b⟩ : iR j := hp.2.2.1
  obtain ⟨r3a, r3b⟩ : iR o0 := hp.2.2.2
  refine V_aload_n dX11_conflictsOf_0 rfl ?_
  refine V_aload_n dX11_conflictsOf_1 rfl ?_
  refine V_iload_n dX11_conflictsOf_2 rfl ?_
  refine V_iload_n dX11_conflictsOf_3 rfl ?_
  refine V_iload_n dX11_conflictsOf_4 rfl ?_
  refine V_callVF (As := [.int (zI s0), .int (zI i), .int (zI j)]) (b := a 0) (hb := (show (mW a σ)[0]? = some (a 0, .inr (10, mF a σ)) from rfl)) (hc := (show vwCl[10]? = some (RX11, TX11, 30) from rfl)) hK (c_isCell hE a σ s0 i j P ⟨hM, hP, by refine ⟨?_, ?_, ?_⟩ <;> (try refine ⟨?_, ?_⟩) <;> omega⟩) mokX11_isCell w1275 w1277 wps2_7 ⟨Nat.le_of_ble_eq_true rfl, Nat.le_of_ble_eq_true rfl⟩ rfl (Nat.le_of_ble_eq_true rfl) ⟨Nat.le_refl _, Nat.le_refl _⟩ dX11_conflictsOf_5 (fun v w p_1 => ?_)
  obtain ⟨rfl, rfl⟩ := p_1
  show V K sX11_conflictsOf 0 0 (mW a σ) _ [.int (zI (bz (decide ((0 ≤ s0 ∧ s0 < P 0 2) ∧ 0 ≤ i ∧ i < P 0 0 ∧ 0 ≤ j ∧ j < P 0 1)))), .ref (a 0)] 8
  refine V_ifd_eq (tgt := 24) dX11_conflictsOf_8 (by decide) (fun c_2 => ?_) (fun c_2 => ?_)
  · refine V_iconst dX11_conflictsOf_24 ?_
    refine V_callVF (As := [.int (zI 1)]) (b := a 0) (hb := (show (mW a σ)[0]? = some (a 0, .inr (10, mF a σ)) from rfl)) (hc := (show vwCl[10]? = some (RX11, TX11, 30) from rfl)) hK (c_fails hE a σ 1 ⟨by omega, by omega⟩) mokX11_fails w1172 w1174 wps1_9 ⟨Nat.le_of_ble_eq_true rfl, Nat.le_of_ble_eq_true rfl⟩ rfl (Nat.le_of_ble_eq_true rfl) ⟨Nat.le_refl _, Nat.le_refl _⟩ dX11_conflictsOf_25 (fun v w p_3 => ?_)
    obtain ⟨rfl, rfl⟩ := p_3
    show V K sX11_conflictsOf 0 0 (mW a (up σ 1 29 1)) _ [.int (zI (bz (decide (0 < 1))))] 28
    refine V_ifd_eq (tgt := 33) dX11_conflictsOf_28 (by decide) (fun h => absurd (by decide) h) (fun _ => ?_)
    refine V_iconst dX11_conflictsOf_31 ?_
    refine V_iret hR rfl (Nat.le_refl _) (Nat.le_refl _) dX11_conflictsOf_32 ?_
    exact pub (gd_f (fun h => c_2 h.1)) rfl rfl ((hP).up (by decide))
  · refine V_aload_n dX11_conflictsOf_11 rfl ?_
    refine V_iload dX11_conflictsOf_12 rfl ?_
    refine V_callVF (As := [.int (zI o0)]) (b := a 0) (hb := (show (mW a σ)[0]? = some (a 0, .inr (10, mF a σ)) from rfl)) (hc := (show vwCl[10]? = some (RX11, TX11, 30) from rfl)) hK (c_is hE a σ o0 P ⟨hM, hP, by (try refine ⟨?_, ?_⟩) <;> omega⟩) mokX11_is w1180 w1182 wps1_10 ⟨Nat.le_of_ble_eq_true rfl, Nat.le_of_ble_eq_true rfl⟩ rfl (Nat.le_of_ble_eq_true rfl) ⟨Nat.le_refl _, Nat.le_refl _⟩ dX11_conflictsOf_14 (fun v w p_5 => ?_)
    obtain ⟨rfl, rfl⟩ := p_5
    show V K sX11_conflictsOf 0 0 (mW a σ) _ [.int (zI (bz (decide (0 ≤ o0 ∧ o0 < P 0 2)))), .ref (a 0)] 17
    refine V_ifd_eq (tgt := 24) dX11_conflictsOf_17 (by decide) (fun c_6 => ?_) (fun c_6 => ?_)
    · refine V_iconst dX11_conflictsOf_24 ?_
      refine V_callVF (As := [.int (zI 1)]) (b := a 0) (hb := (show (mW a σ)[0]? = some (a 0, .inr (10, mF a σ)) from rfl)) (hc := (show vwCl[10]? = some (RX11, TX11, 30) from rfl)) hK (c_fails hE a σ 1 ⟨by omega, by omega⟩) mokX11_fails w1172 w1174 wps1_9 ⟨Nat.le_of_ble_eq_true rfl, Nat.le_of_ble_eq_true rfl⟩ rfl (Nat.le_of_ble_eq_true rfl) ⟨Nat.le_refl _, Nat.le_refl _⟩ dX11_conflictsOf_25 (fun v w p_7 => ?_)
      obtain ⟨rfl, rfl⟩ := p_7
      show V K sX11_conflictsOf 0 0 (mW a (up σ 1 29 1)) _ [.int (zI (bz (decide (0 < 1))))] 28
      refine V_ifd_eq (tgt := 33) dX11_conflictsOf_28 (by decide) (fun h => absurd (by decide) h) (fun _ => ?_)
      refine V_iconst dX11_conflictsOf_31 ?_
      refine V_iret hR rfl (Nat.le_refl _) (Nat.le_refl _) dX11_conflictsOf_32 ?_
      exact pub (gd_f (fun h => c_6 h.2)) rfl rfl ((hP).up (by decide))
    · refine V_iconst dX11_conflictsOf_20 ?_
      refine V_goto (tgt := 25) dX11_conflictsOf_21 (by decide) ?_
      refine V_callVF (As := [.int (zI 0)]) (b := a 0) (hb := (show (mW a σ)[0]? = some (a 0, .inr (10, mF a σ)) from rfl)) (hc := (show vwCl[10]? = some (RX11, TX11, 30) from rfl)) hK (c_fails hE a σ 0 ⟨by omega, by omega⟩) mokX11_fails w1172 w1174 wps1_9 ⟨Nat.le_of_ble_eq_true rfl, Nat.le_of_ble_eq_true rfl⟩ rfl (Nat.le_of_ble_eq_true rfl) ⟨Nat.le_refl _, Nat.le_refl _⟩ dX11_conflictsOf_25 (fun v w p_9 => ?_)
      obtain ⟨rfl, rfl⟩ := p_9
      show V K sX11_conflictsOf 0 0 (mW a (up σ 1 29 0)) _ [.int (zI (bz (decide (0 < 0))))] 28
      refine V_ifd_eq (tgt := 33) dX11_conflictsOf_28 (by decide) (fun _ => ?_) (fun h => absurd h (by decide))
      refine V_aload_n dX11_conflictsOf_33 rfl ?_
      refine V_callVF (As := []) (b := a 0) (hb := (show (mW a (up σ 1 29 0))[0]? = some (a 0, .inr (10, mF a (up σ 1 29 0))) from rfl)) (hc := (show vwCl[10]? = some (RX11, TX11, 30) from rfl)) hK (c_finds hE a (up σ 1 29 0) P ⟨hM, ((hP).up (by decide))⟩) mokX11_finds w1295 w1297 wps2_9 ⟨Nat.le_of_ble_eq_true rfl, Nat.le_of_ble_eq_true rfl⟩ rfl (Nat.le_of_ble_eq_true rfl) ⟨Nat.le_refl _, Nat.le_refl _⟩ dX11_conflictsOf_34 (fun v w p_11 => ?_)
      obtain ⟨σ_12, rfl, rfl, q_13, q_14, q_15⟩ := p_11
      show V K sX11_conflictsOf 0 0 (mW a σ_12) _ [] 37
      have hcb := cc_b hM c_2
      refine V_aload_n dX11_conflictsOf_37 rfl ?_
      refine V_aload_n dX11_conflictsOf_38 rfl ?_
      refine V_iload_n dX11_conflictsOf_39 rfl ?_
      refine V_iload_n dX11_conflictsOf_40 rfl ?_
      refine V_iload_n dX11_conflictsOf_41 rfl ?_
      refine V_callVF (As := [.int (zI s0), .int (zI i), .int (zI j)]) (b := a 0) (hb := (show (mW a σ_12)[0]? = some (a 0, .inr (10, mF a σ_12)) from rfl)) (hc := (show vwCl[10]? = some (RX11, TX11, 30) from rfl)) hK (c_cell hE a σ_12 s0 i j P ⟨hM, ((((hP).up (by decide))).fr q_13 (by decide))⟩) mokX11_cell w1243 w1245 wps2_5 ⟨Nat.le_of_ble_eq_true rfl, Nat.le_of_ble_eq_true rfl⟩ rfl (Nat.le_of_ble_eq_true rfl) ⟨Nat.le_refl _, Nat.le_refl _⟩ dX11_conflictsOf_42 (fun v w p_16 => ?_)
      obtain ⟨rfl, rfl⟩ := p_16
      show V K sX11_conflictsOf 0 0 (mW a σ_12) _ [.int (zI (64 * s0 + i * P 0 1 + j)), .ref (a 0)] 45
      refine V_iload dX11_conflictsOf_45 rfl ?_
      refine V_callVF (As := [.int (zI (64 * s0 + i * P 0 1 + j)), .int (zI o0)]) (b := a 0) (hb := (show (mW a σ_12)[0]? = some (a 0, .inr (10, mF a σ_12)) from rfl)) (hc := (show vwCl[10]? = some (RX11, TX11, 30) from rfl)) hK (c_conflicts hE a σ_12 (64 * s0 + i * P 0 1 + j) o0 P (P 0 11) (P 0 12) (cc P s0 i j) ⟨hM, ((((hP).up (by decide))).fr q_13 (by decide)), q_14, q_15, hcb.1, c_6, hcb.2.1.symm⟩) mokX11_conflicts w1323 w1325 wps2_12 ⟨Nat.le_of_ble_eq_true rfl, Nat.le_of_ble_eq_true rfl⟩ rfl (Nat.le_of_ble_eq_true rfl) ⟨Nat.le_refl _, Nat.le_refl _⟩ dX11_conflictsOf_47 (fun v w p_17 => ?_)
      obtain ⟨rfl, rfl⟩ := p_17
      show V K sX11_conflictsOf 0 0 (mW a σ_12) _ [.int (zI (ct (fun p => cf P (P 0 11) (P 0 12) (cc P s0 i j) (o0 * pt P + p)) (pt P)))] 50
      refine V_iret hR rfl (Nat.le_refl _) (Nat.le_refl _) dX11_conflictsOf_50 ?_
      exact pub (gd_t ⟨c_2, c_6⟩) rfl ((congrFun (q_13 1 (by decide)) 29).trans (rfl)) ((((hP).up (by decide))).fr q_13 (by decide))
set_option maxRecDepth 100000 in
set_option maxHeartbeats 4000000 in
theorem c_windowSize {E : EV} (hE : Stb E) (a : Nat → Nat) (σ : St) (s0 : Int) (P : St) (hp : MI P ∧ PR P σ ∧ iR s0) : MC E yX11_windowSize sX11_windowSize [.ref (a 0), .int (zI s0)] (mW a σ) (fun v w => ∃ σ2 : St, v = some (.int (zI ((sp_windowSize P s0).2.1))) ∧ w = mW a σ2 ∧ (σ2 1 29 = (sp_windowSize P s0).1) ∧ (PR (sp_windowSize P s0).2.2 σ2)) := by
  refine MC.of hE [some (.ref (a 0)), some (.int (zI s0))] 0 rfl rfl rfl (by simp [Value.category]) (Nat.le_of_ble_eq_true rfl) (fun K hK hR => ?_)
  obtain ⟨hM, hP, hp⟩ := hp
  have e0 := hP 0 (by decide) (by decide)
  have f0 : ∀ i, σ 0 i = P 0 i := fun i => by rw [e0]
  have mR := hM.1
  have mC := hM.2.1
  have mN := hM.2.2.1
  have mp := hM.pts
  have ma := hM.als
  have gR := f0 0
  have gC := f0 1
  have gN := f0 2
  have hr := hp
  obtain ⟨r0a, r0b⟩ : iR s0 := hp
  refine V_aload_n dX11_windowSize_0 rfl ?_
  refine V_aload_n dX11_windowSize_1 rfl ?_
  refine V_iload_n dX11_windowSize_2 rfl ?_
  refine V_callVF (As := [.int (zI s0)]) (b := a 0) (hb := (show (mW a σ)[0]? = some (a 0, .inr (10, mF a σ)) from rfl)) (hc := (show vwCl[10]? = some (RX11, TX11, 30) from rfl)) hK (c_is hE a σ s0 P ⟨hM, hP, by (try refine ⟨?_, ?_⟩) <;> omega⟩) mokX11_is w1180 w1182 wps1_10 ⟨Nat.le_of_ble_eq_true rfl, Nat.le_of_ble_eq_true rfl⟩ rfl (Nat.le_of_ble_eq_true rfl) ⟨Nat.le_refl _, Nat.le_refl _⟩ dX11_windowSize_3 (fun v w p_1 => ?_)
  obtain ⟨rfl, rfl⟩ := p_1
  show V K sX11_windowSize 0 0 (mW a σ) _ [.int (zI (bz (decide (0 ≤ s0 ∧ s0 < P 0 2)))), .ref (a 0)] 6
  refine V_ifd_eq (tgt := 13) dX11_windowSize_6 (by decide) (fun c_2 => ?_) (fun c_2 => ?_)
  · refine V_iconst dX11_windowSize_13 ?_
    refine V_callVF (As := [.int (zI 1)]) (b := a 0) (hb := (show (mW a σ)[0]? = some (a 0, .inr (10, mF a σ)) from rfl)) (hc := (show vwCl[10]? = some (RX11, TX11, 30) from rfl)) hK (c_fails hE a σ 1 ⟨by omega, by omega⟩) mokX11_fails w1172 w1174 wps1_9 ⟨Nat.le_of_ble_eq_true rfl, Nat.le_of_ble_eq_true rfl⟩ rfl (Nat.le_of_ble_eq_true rfl) ⟨Nat.le_refl _, Nat.le_refl _⟩ dX11_windowSize_14 (fun v w p_3 => ?_)
    obtain ⟨rfl, rfl⟩ := p_3
    show V K sX11_windowSize 0 0 (mW a (up σ 1 29 1)) _ [.int (zI (bz (decide (0 < 1))))] 17
    refine V_ifd_eq (tgt := 24) dX11_windowSize_17 (by decide) (fun h => absurd (by decide) h) (fun _ => ?_)
    refine V_iconst dX11_windowSize_20 ?_
    refine V_goto (tgt := 29) dX11_windowSize_21 (by decide) ?_
    refine V_iret hR rfl (Nat.le_refl _) (Nat.le_refl _) dX11_windowSize_29 ?_
    exact pub (gd_f c_2) rfl rfl ((hP).up (by decide))
  · refine V_iconst dX11_windowSize_9 ?_
    refine V_goto (tgt := 14) dX11_windowSize_10 (by decide) ?_
    refine V_callVF (As := [.int (zI 0)]) (b := a 0) (hb := (show (mW a σ)[0]? = some (a 0, .inr (10, mF a σ)) from rfl)) (hc := (show vwCl[10]? = some (RX11, TX11, 30) from rfl)) hK (c_fails hE a σ 0 ⟨by omega, by omega⟩) mokX11_fails w1172 w1174 wps1_9 ⟨Nat.le_of_ble_eq_true rfl, Nat.le_of_ble_eq_true rfl⟩ rfl (Nat.le_of_ble_eq_true rfl) ⟨Nat.le_refl _, Nat.le_refl _⟩ dX11_windowSize_14 (fun v w p_5 => ?_)
    obtain ⟨rfl, rfl⟩ := p_5
    show V K sX11_windowSize 0 0 (mW a (up σ 1 29 0)) _ [.int (zI (bz (decide (0 < 0))))] 17
    refine V_ifd_eq (tgt := 24) dX11_windowSize_17 (by decide) (fun _ => ?_) (fun h => absurd h (by decide))
    refine V_aload_n dX11_windowSize_24 rfl ?_
    refine V_iload_n dX11_windowSize_25 rfl ?_
    refine V_callVF (As := [.int (zI s0)]) (b := a 0) (hb := (show (mW a (up σ 1 29 0))[0]? = some (a 0, .inr (10, mF a (up σ 1 29 0))) from rfl)) (hc := (show vwCl[10]? = some (RX11, TX11, 30) from rfl)) hK (c_size hE a (up σ 1 29 0) s0 P ⟨hM, ((hP).up (by decide)), by refine ⟨?_, ?_⟩ <;> (try refine ⟨?_, ?_⟩) <;> omega⟩) mokX11_size w1343 w1345 wps2_15 ⟨Nat.le_of_ble_eq_true rfl, Nat.le_of_ble_eq_true rfl⟩ rfl (Nat.le_of_ble_eq_true rfl) ⟨Nat.le_refl _, Nat.le_refl _⟩ dX11_windowSize_26 (fun v w p_7 => ?_)
    obtain ⟨rfl, rfl⟩ := p_7
    show V K sX11_windowSize 0 0 (mW a (up σ 1 29 0)) _ [.int (zI (sz P s0))] 29
    refine V_iret hR rfl (Nat.le_refl _) (Nat.le_refl _) dX11_windowSize_29 ?_
    exact pub (gd_t c_2) rfl rfl ((hP).up (by decide))
set_option maxRecDepth 100000 in
set_option maxHeartbeats 4000000 in
theorem c_room {E : EV} (hE : Stb E) (a : Nat → Nat) (σ : St) (P : St) (hp : MI P ∧ PR P σ) : MC E yX11_room sX11_room [.ref (a 0)] (mW a σ) (fun v w => ∃ σ2 : St, v = some (.int (zI ((sp_room P).2.1))) ∧ w = mW a σ2 ∧ (σ2 1 29 = (sp_room P).1) ∧ (PR (sp_room P).2.2 σ2)) := by
  refine MC.of hE [some (.ref (a 0))] 0 rfl rfl rfl (by simp [Value.category]) (Nat.le_of_ble_eq_true rfl) (fun K hK hR => ?_)
  obtain ⟨hM, hP⟩ := hp
  have e0 := hP 0 (by decide) (by decide)
  have f0 : ∀ i, σ 0 i = P 0 i := fun i => by rw [e0]
  have mR := hM.1
  have mC := hM.2.1
  have mN := hM.2.2.1
  have mp := hM.pts
  have ma := hM.als
  have gR := f0 0
  have gC := f0 1
  have gN := f0 2
  refine V_aload_n dX11_room_0 rfl ?_
  refine V_iconst dX11_room_1 ?_
  refine mp_thrown rfl dX11_room_2 ?_
  refine V_aload_n dX11_room_5 rfl ?_
  refine V_callVF (As := []) (b := a 0) (hb := (show (mW a (up σ 1 29 0))[0]? = some (a 0, .inr (10, mF a (up σ 1 29 0))) from rfl)) (hc := (show vwCl[10]? = some (RX11, TX11, 30) from rfl)) hK (c_rooms hE a (up σ 1 29 0) P ⟨hM, ((hP).up (by decide))⟩) mokX11_rooms w1394 w1396 wps3_7 ⟨Nat.le_of_ble_eq_true rfl, Nat.le_of_ble_eq_true rfl⟩ rfl (Nat.le_of_ble_eq_true rfl) ⟨Nat.le_refl _, Nat.le_refl _⟩ dX11_room_6 (fun v w p_1 => ?_)
  obtain ⟨rfl, rfl⟩ := p_1
  show V K sX11_room 0 0 (mW a (up σ 1 29 0)) _ [.int (zI (smv (sz P) (P 0 2)))] 9
  refine V_iret hR rfl (Nat.le_refl _) (Nat.le_refl _) dX11_room_9 ?_
  exact pub rfl rfl rfl ((hP).up (by decide))
set_option maxRecDepth 100000 in
set_option maxHeartbeats 4000000 in
theorem c_keepWhole {E : EV} (hE : Stb E) (a : Nat → Nat) (σ : St) (s0 : Int) (P : St) (hp : MI P ∧ PR P σ ∧ iR s0) : MC E yX11_keepWhole sX11_keepWhole [.ref (a 0), .int (zI s0)] (mW a σ) (fun v w => ∃ σ2 : St, v = some (.int (zI ((sp_keepWhole P s0).2.1))) ∧ w = mW a σ2 ∧ (σ2 1 29 = (sp_keepWhole P s0).1) ∧ (PR (sp_keepWhole P s0).2.2 σ2)) := by
  refine MC.of hE [some (.ref (a 0)), some (.int (zI s0))] 0 rfl rfl rfl (by simp [Value.category]) (Nat.le_of_ble_eq_true rfl) (fun K hK hR => ?_)
  obtain ⟨hM, hP, hp⟩ := hp
  have e0 := hP 0 (by decide) (by decide)
  have f0 : ∀ i, σ 0 i = P 0 i := fun i => by rw [e0]
  have mR := hM.1
  have mC := hM.2.1
  have mN := hM.2.2.1
  have mp := hM.pts
  have ma := hM.als
  have gR := f0 0
  have gC := f0 1
  have gN := f0 2
  have hr := hp
  obtain ⟨r0a, r0b⟩ : iR s0 := hp
  refine V_aload_n dX11_keepWhole_0 rfl ?_
  refine V_aload_n dX11_keepWhole_1 rfl ?_
  refine V_iload_n dX11_keepWhole_2 rfl ?_
  refine V_callVF (As := [.int (zI s0)]) (b := a 0) (hb := (show (mW a σ)[0]? = some (a 0, .inr (10, mF a σ)) from rfl)) (hc := (show vwCl[10]? = some (RX11, TX11, 30) from rfl)) hK (c_is hE a σ s0 P ⟨hM, hP, by (try refine ⟨?_, ?_⟩) <;> omega⟩) mokX11_is w1180 w1182 wps1_10 ⟨Nat.le_of_ble_eq_true rfl, Nat.le_of_ble_eq_true rfl⟩ rfl (Nat.le_of_ble_eq_true rfl) ⟨Nat.le_refl _, Nat.le_refl _⟩ dX11_keepWhole_3 (fun v w p_1 => ?_)
  obtain ⟨rfl, rfl⟩ := p_1
  show V K sX11_keepWhole 0 0 (mW a σ) _ [.int (zI (bz (decide (0 ≤ s0 ∧ s0 < P 0 2)))), .ref (a 0)] 6
  refine V_ifd_eq (tgt := 13) dX11_keepWhole_6 (by decide) (fun c_2 => ?_) (fun c_2 => ?_)
  · refine V_iconst dX11_keepWhole_13 ?_
    refine V_callVF (As := [.int (zI 1)]) (b := a 0) (hb := (show (mW a σ)[0]? = some (a 0, .inr (10, mF a σ)) from rfl)) (hc := (show vwCl[10]? = some (RX11, TX11, 30) from rfl)) hK (c_fails hE a σ 1 ⟨by omega, by omega⟩) mokX11_fails w1172 w1174 wps1_9 ⟨Nat.le_of_ble_eq_true rfl, Nat.le_of_ble_eq_true rfl⟩ rfl (Nat.le_of_ble_eq_true rfl) ⟨Nat.le_refl _, Nat.le_refl _⟩ dX11_keepWhole_14 (fun v w p_3 => ?_)
    obtain ⟨rfl, rfl⟩ := p_3
    show V K sX11_keepWhole 0 0 (mW a (up σ 1 29 1)) _ [.int (zI (bz (decide (0 < 1))))] 17
    refine V_ifd_eq (tgt := 24) dX11_keepWhole_17 (by decide) (fun h => absurd (by decide) h) (fun _ => ?_)
    refine V_iconst dX11_keepWhole_20 ?_
    refine V_goto (tgt := 32) dX11_keepWhole_21 (by decide) ?_
    refine V_iret hR rfl (Nat.le_refl _) (Nat.le_refl _) dX11_keepWhole_32 ?_
    exact pub (gd_f c_2) rfl rfl ((hP).up (by decide))
  · refine V_iconst dX11_keepWhole_9 ?_
    refine V_goto (tgt := 14) dX11_keepWhole_10 (by decide) ?_
    refine V_callVF (As := [.int (zI 0)]) (b := a 0) (hb := (show (mW a σ)[0]? = some (a 0, .inr (10, mF a σ)) from rfl)) (hc := (show vwCl[10]? = some (RX11, TX11, 30) from rfl)) hK (c_fails hE a σ 0 ⟨by omega, by omega⟩) mokX11_fails w1172 w1174 wps1_9 ⟨Nat.le_of_ble_eq_true rfl, Nat.le_of_ble_eq_true rfl⟩ rfl (Nat.le_of_ble_eq_true rfl) ⟨Nat.le_refl _, Nat.le_refl _⟩ dX11_keepWhole_14 (fun v w p_5 => ?_)
    obtain ⟨rfl, rfl⟩ := p_5
    show V K sX11_keepWhole 0 0 (mW a (up σ 1 29 0)) _ [.int (zI (bz (decide (0 < 0))))] 17
    refine V_ifd_eq (tgt := 24) dX11_keepWhole_17 (by decide) (fun _ => ?_) (fun h => absurd h (by decide))
    refine V_aload_n dX11_keepWhole_24 rfl ?_
    refine V_iload_n dX11_keepWhole_25 rfl ?_
    refine V_iconst dX11_keepWhole_26 ?_
    refine V_iconst dX11_keepWhole_27 ?_
    refine V_iconst dX11_keepWhole_28 ?_
    refine V_callVF (As := [.int (zI s0), .int (zI 0), .int (zI 0), .int (zI 0)]) (b := a 0) (hb := (show (mW a (up σ 1 29 0))[0]? = some (a 0, .inr (10, mF a (up σ 1 29 0))) from rfl)) (hc := (show vwCl[10]? = some (RX11, TX11, 30) from rfl)) hK (c_gives hE a (up σ 1 29 0) s0 0 0 0 P ⟨hM, ((hP).up (by decide)), (by omega), hM.kp (Or.inl rfl)⟩) mokX11_gives w1339 w1341 wps2_14 ⟨Nat.le_of_ble_eq_true rfl, Nat.le_of_ble_eq_true rfl⟩ rfl (Nat.le_of_ble_eq_true rfl) ⟨Nat.le_refl _, Nat.le_refl _⟩ dX11_keepWhole_29 (fun v w p_7 => ?_)
    obtain ⟨rfl, rfl⟩ := p_7
    show V K sX11_keepWhole 0 0 (mW a (kp (up σ 1 29 0) s0 0 0 0)) _ [.int (zI (sz (kp P s0 0 0 0) s0))] 32
    refine V_iret hR rfl (Nat.le_refl _) (Nat.le_refl _) dX11_keepWhole_32 ?_
    exact pub (gd_t c_2) rfl rfl ((((hP).up (by decide))).kp _ _ _ _)
set_option maxRecDepth 100000 in
set_option maxHeartbeats 4000000 in
theorem c_keepRest {E : EV} (hE : Stb E) (a : Nat → Nat) (σ : St) (s0 : Int) (m : Int) (P : St) (hp : MI P ∧ PR P σ ∧ iR s0 ∧ iR m) : MC E yX11_keepRest sX11_keepRest [.ref (a 0), .int (zI s0), .int (zI m)] (mW a σ) (fun v w => ∃ σ2 : St, v = some (.int (zI ((sp_keepRest P s0 m).2.1))) ∧ w = mW a σ2 ∧ (σ2 1 29 = (sp_keepRest P s0 m).1) ∧ (PR (sp_keepRest P s0 m).2.2 σ2)) := by
  refine MC.of hE [some (.ref (a 0)), some (.int (zI s0)), some (.int (zI m))] 0 rfl rfl rfl (by simp [Value.category]) (Nat.le_of_ble_eq_true rfl) (fun K hK hR => ?_)
  obtain ⟨hM, hP, hp⟩ := hp
  have e0 := hP 0 (by decide) (by decide)
  have f0 : ∀ i, σ 0 i = P 0 i := fun i => by rw [e0]
  have mR := hM.1
  have mC := hM.2.1
  have mN := hM.2.2.1
  have mp := hM.pts
  have ma := hM.als
  have gR := f0 0
  have gC := f0 1
  have gN := f0 2
  have hr := hp
  obtain ⟨r0a, r0b⟩ : iR s0 := hp.1
  obtain ⟨r1a, r1b⟩ : iR m := hp.2
  refine V_aload_n dX11_keepRest_0 rfl ?_
  refine V_aload_n dX11_keepRest_1 rfl ?_
  refine V_iload_n dX11_keepRest_2 rfl ?_
  refine V_callVF (As := [.int (zI s0)]) (b := a 0) (hb := (show (mW a σ)[0]? = some (a 0, .inr (10, mF a σ)) from rfl)) (hc := (show vwCl[10]? = some (RX11, TX11, 30) from rfl)) hK (c_is hE a σ s0 P ⟨hM, hP, by (try refine ⟨?_, ?_⟩) <;> omega⟩) mokX11_is w1180 w1182 wps1_10 ⟨Nat.le_of_ble_eq_true rfl, Nat.le_of_ble_eq_true rfl⟩ rfl (Nat.le_of_ble_eq_true rfl) ⟨Nat.le_refl _, Nat.le_refl _⟩ dX11_keepRest_3 (fun v w p_1 => ?_)
  obtain ⟨rfl, rfl⟩ := p_1
  show V K sX11_keepRest 0 0 (mW a σ) _ [.int (zI (bz (decide (0 ≤ s0 ∧ s0 < P 0 2)))), .ref (a 0)] 6
  refine V_ifd_ne (tgt := 13) dX11_keepRest_6 (by decide) (fun c_2 => ?_) (fun c_2 => ?_)
  · refine V_iload_n dX11_keepRest_13 rfl ?_
    refine V_callSE (As := [.int (zI m)]) hK (c_isModulus hE m ⟨by omega, by omega⟩) mokX11_isModulus w1351 w1352 ⟨Nat.le_of_ble_eq_true rfl, Nat.le_of_ble_eq_true rfl⟩ rfl (Nat.le_of_ble_eq_true rfl) ⟨Nat.le_refl _, Nat.le_refl _⟩ dX11_keepRest_14 (fun v w p_3 => ?_)
    obtain ⟨rfl, rfl⟩ := p_3
    show V K sX11_keepRest 0 0 (mW a σ) _ [.int (zI (bz (decide (1 ≤ m ∧ m ≤ 99)))), .ref (a 0)] 17
    refine V_ifd_eq (tgt := 24) dX11_keepRest_17 (by decide) (fun c_4 => ?_) (fun c_4 => ?_)
    · refine V_iconst dX11_keepRest_24 ?_
      refine V_callVF (As := [.int (zI 2)]) (b := a 0) (hb := (show (mW a σ)[0]? = some (a 0, .inr (10, mF a σ)) from rfl)) (hc := (show vwCl[10]? = some (RX11, TX11, 30) from rfl)) hK (c_fails hE a σ 2 ⟨by omega, by omega⟩) mokX11_fails w1172 w1174 wps1_9 ⟨Nat.le_of_ble_eq_true rfl, Nat.le_of_ble_eq_true rfl⟩ rfl (Nat.le_of_ble_eq_true rfl) ⟨Nat.le_refl _, Nat.le_refl _⟩ dX11_keepRest_25 (fun v w p_5 => ?_)
      obtain ⟨rfl, rfl⟩ := p_5
      show V K sX11_keepRest 0 0 (mW a (up σ 1 29 2)) _ [.int (zI (bz (decide (0 < 2))))] 28
      refine V_ifd_eq (tgt := 35) dX11_keepRest_28 (by decide) (fun h => absurd (by decide) h) (fun _ => ?_)
      refine V_iconst dX11_keepRest_31 ?_
      refine V_goto (tgt := 43) dX11_keepRest_32 (by decide) ?_
      refine V_iret hR rfl (Nat.le_refl _) (Nat.le_refl _) dX11_keepRest_43 ?_
      exact pub ((gd_t c_2).trans (gd_f c_4)) rfl rfl ((hP).up (by decide))
    · refine V_iconst dX11_keepRest_20 ?_
      refine V_goto (tgt := 25) dX11_keepRest_21 (by decide) ?_
      refine V_callVF (As := [.int (zI 0)]) (b := a 0) (hb := (show (mW a σ)[0]? = some (a 0, .inr (10, mF a σ)) from rfl)) (hc := (show vwCl[10]? = some (RX11, TX11, 30) from rfl)) hK (c_fails hE a σ 0 ⟨by omega, by omega⟩) mokX11_fails w1172 w1174 wps1_9 ⟨Nat.le_of_ble_eq_true rfl, Nat.le_of_ble_eq_true rfl⟩ rfl (Nat.le_of_ble_eq_true rfl) ⟨Nat.le_refl _, Nat.le_refl _⟩ dX11_keepRest_25 (fun v w p_7 => ?_)
      obtain ⟨rfl, rfl⟩ := p_7
      show V K sX11_keepRest 0 0 (mW a (up σ 1 29 0)) _ [.int (zI (bz (decide (0 < 0))))] 28
      refine V_ifd_eq (tgt := 35) dX11_keepRest_28 (by decide) (fun _ => ?_) (fun h => absurd h (by decide))
      refine V_aload_n dX11_keepRest_35 rfl ?_
      refine V_iload_n dX11_keepRest_36 rfl ?_
      refine V_iconst dX11_keepRest_37 ?_
      refine V_iload_n dX11_keepRest_38 rfl ?_
      refine V_iconst dX11_keepRest_39 ?_
      refine V_callVF (As := [.int (zI s0), .int (zI 1), .int (zI m), .int (zI 0)]) (b := a 0) (hb := (show (mW a (up σ 1 29 0))[0]? = some (a 0, .inr (10, mF a (up σ 1 29 0))) from rfl)) (hc := (show vwCl[10]? = some (RX11, TX11, 30) from rfl)) hK (c_gives hE a (up σ 1 29 0) s0 1 m 0 P ⟨hM, ((hP).up (by decide)), (by omega), hM.kp (Or.inr (Or.inl ⟨rfl, c_4⟩))⟩) mokX11_gives w1339 w1341 wps2_14 ⟨Nat.le_of_ble_eq_true rfl, Nat.le_of_ble_eq_true rfl⟩ rfl (Nat.le_of_ble_eq_true rfl) ⟨Nat.le_refl _, Nat.le_refl _⟩ dX11_keepRest_40 (fun v w p_9 => ?_)
      obtain ⟨rfl, rfl⟩ := p_9
      show V K sX11_keepRest 0 0 (mW a (kp (up σ 1 29 0) s0 1 m 0)) _ [.int (zI (sz (kp P s0 1 m 0) s0))] 43
      refine V_iret hR rfl (Nat.le_refl _) (Nat.le_refl _) dX11_keepRest_43 ?_
      exact pub ((gd_t c_2).trans (gd_t c_4)) rfl rfl ((((hP).up (by decide))).kp _ _ _ _)
  · refine V_iconst dX11_keepRest_9 ?_
    refine V_goto (tgt := 25) dX11_keepRest_10 (by decide) ?_
    refine V_callVF (As := [.int (zI 1)]) (b := a 0) (hb := (show (mW a σ)[0]? = some (a 0, .inr (10, mF a σ)) from rfl)) (hc := (show vwCl[10]? = some (RX11, TX11, 30) from rfl)) hK (c_fails hE a σ 1 ⟨by omega, by omega⟩) mokX11_fails w1172 w1174 wps1_9 ⟨Nat.le_of_ble_eq_true rfl, Nat.le_of_ble_eq_true rfl⟩ rfl (Nat.le_of_ble_eq_true rfl) ⟨Nat.le_refl _, Nat.le_refl _⟩ dX11_keepRest_25 (fun v w p_10 => ?_)
    obtain ⟨rfl, rfl⟩ := p_10
    show V K sX11_keepRest 0 0 (mW a (up σ 1 29 1)) _ [.int (zI (bz (decide (0 < 1))))] 28
    refine V_ifd_eq (tgt := 35) dX11_keepRest_28 (by decide) (fun h => absurd (by decide) h) (fun _ => ?_)
    refine V_iconst dX11_keepRest_31 ?_
    refine V_goto (tgt := 43) dX11_keepRest_32 (by decide) ?_
    refine V_iret hR rfl (Nat.le_refl _) (Nat.le_refl _) dX11_keepRest_43 ?_
    exact pub (gd_f c_2) rfl rfl ((hP).up (by decide))
set_option maxRecDepth 100000 in
set_option maxHeartbeats 4000000 in
theorem c_keepTwoRests {E : EV} (hE : Stb E) (a : Nat → Nat) (σ : St) (s0 : Int) (m1 : Int) (m2 : Int) (P : St) (hp : MI P ∧ PR P σ ∧ iR s0 ∧ iR m1 ∧ iR m2) : MC E yX11_keepTwoRests sX11_keepTwoRests [.ref (a 0), .int (zI s0), .int (zI m1), .int (zI m2)] (mW a σ) (fun v w => ∃ σ2 : St, v = some (.int (zI ((sp_keepTwoRests P s0 m1 m2).2.1))) ∧ w = mW a σ2 ∧ (σ2 1 29 = (sp_keepTwoRests P s0 m1 m2).1) ∧ (PR (sp_keepTwoRests P s0 m1 m2).2.2 σ2)) := by
  refine MC.of hE [some (.ref (a 0)), some (.int (zI s0)), some (.int (zI m1)), some (.int (zI m2))] 0 rfl rfl rfl (by simp [Value.category]) (Nat.le_of_ble_eq_true rfl) (fun K hK hR => ?_)
  obtain ⟨hM, hP, hp⟩ := hp
  have e0 := hP 0 (by decide) (by decide)
  have f0 : ∀ i, σ 0 i = P 0 i := fun i => by rw [e0]
  have mR := hM.1
  have mC := hM.2.1
  have mN := hM.2.2.1
  have mp := hM.pts
  have ma := hM.als
  have gR := f0 0
  have gC := f0 1
  have gN := f0 2
  have hr := hp
  obtain ⟨r0a, r0b⟩ : iR s0 := hp.1
  obtain ⟨r1a, r1b⟩ : iR m1 := hp.2.1
  obtain ⟨r2a, r2b⟩ : iR m2 := hp.2.2
  refine V_aload_n dX11_keepTwoRests_0 rfl ?_
  refine V_aload_n dX11_keepTwoRests_1 rfl ?_
  refine V_iload_n dX11_keepTwoRests_2 rfl ?_
  refine V_callVF (As := [.int (zI s0)]) (b := a 0) (hb := (show (mW a σ)[0]? = some (a 0, .inr (10, mF a σ)) from rfl)) (hc := (show vwCl[10]? = some (RX11, TX11, 30) from rfl)) hK (c_is hE a σ s0 P ⟨hM, hP, by (try refine ⟨?_, ?_⟩) <;> omega⟩) mokX11_is w1180 w1182 wps1_10 ⟨Nat.le_of_ble_eq_true rfl, Nat.le_of_ble_eq_true rfl⟩ rfl (Nat.le_of_ble_eq_true rfl) ⟨Nat.le_refl _, Nat.le_refl _⟩ dX11_keepTwoRests_3 (fun v w p_1 => ?_)
  obtain ⟨rfl, rfl⟩ := p_1
  show V K sX11_keepTwoRests 0 0 (mW a σ) _ [.int (zI (bz (decide (0 ≤ s0 ∧ s0 < P 0 2)))), .ref (a 0)] 6
  refine V_ifd_ne (tgt := 13) dX11_keepTwoRests_6 (by decide) (fun c_2 => ?_) (fun c_2 => ?_)
  · refine V_iload_n dX11_keepTwoRests_13 rfl ?_
    refine V_callSE (As := [.int (zI m1)]) hK (c_isModulus hE m1 ⟨by omega, by omega⟩) mokX11_isModulus w1351 w1352 ⟨Nat.le_of_ble_eq_true rfl, Nat.le_of_ble_eq_true rfl⟩ rfl (Nat.le_of_ble_eq_true rfl) ⟨Nat.le_refl _, Nat.le_refl _⟩ dX11_keepTwoRests_14 (fun v w p_3 => ?_)
    obtain ⟨rfl, rfl⟩ := p_3
    show V K sX11_keepTwoRests 0 0 (mW a σ) _ [.int (zI (bz (decide (1 ≤ m1 ∧ m1 ≤ 99)))), .ref (a 0)] 17
    refine V_ifd_eq (tgt := 31) dX11_keepTwoRests_17 (by decide) (fun c_4 => ?_) (fun c_4 => ?_)
    · refine V_iconst dX11_keepTwoRests_31 ?_
      refine V_callVF (As := [.int (zI 2)]) (b := a 0) (hb := (show (mW a σ)[0]? = some (a 0, .inr (10, mF a σ)) from rfl)) (hc := (show vwCl[10]? = some (RX11, TX11, 30) from rfl)) hK (c_fails hE a σ 2 ⟨by omega, by omega⟩) mokX11_fails w1172 w1174 wps1_9 ⟨Nat.le_of_ble_eq_true rfl, Nat.le_of_ble_eq_true rfl⟩ rfl (Nat.le_of_ble_eq_true rfl) ⟨Nat.le_refl _, Nat.le_refl _⟩ dX11_keepTwoRests_32 (fun v w p_5 => ?_)
      obtain ⟨rfl, rfl⟩ := p_5
      show V K sX11_keepTwoRests 0 0 (mW a (up σ 1 29 2)) _ [.int (zI (bz (decide (0 < 2))))] 35
      refine V_ifd_eq (tgt := 42) dX11_keepTwoRests_35 (by decide) (fun h => absurd (by decide) h) (fun _ => ?_)
      refine V_iconst dX11_keepTwoRests_38 ?_
      refine V_goto (tgt := 50) dX11_keepTwoRests_39 (by decide) ?_
      refine V_iret hR rfl (Nat.le_refl _) (Nat.le_refl _) dX11_keepTwoRests_50 ?_
      exact pub ((gd_t c_2).trans (gd_f (fun h => c_4 h.1))) rfl rfl ((hP).up (by decide))
    · refine V_iload_n dX11_keepTwoRests_20 rfl ?_
      refine V_callSE (As := [.int (zI m2)]) hK (c_isModulus hE m2 ⟨by omega, by omega⟩) mokX11_isModulus w1351 w1352 ⟨Nat.le_of_ble_eq_true rfl, Nat.le_of_ble_eq_true rfl⟩ rfl (Nat.le_of_ble_eq_true rfl) ⟨Nat.le_refl _, Nat.le_refl _⟩ dX11_keepTwoRests_21 (fun v w p_7 => ?_)
      obtain ⟨rfl, rfl⟩ := p_7
      show V K sX11_keepTwoRests 0 0 (mW a σ) _ [.int (zI (bz (decide (1 ≤ m2 ∧ m2 ≤ 99)))), .ref (a 0)] 24
      refine V_ifd_eq (tgt := 31) dX11_keepTwoRests_24 (by decide) (fun c_8 => ?_) (fun c_8 => ?_)
      · refine V_iconst dX11_keepTwoRests_31 ?_
        refine V_callVF (As := [.int (zI 2)]) (b := a 0) (hb := (show (mW a σ)[0]? = some (a 0, .inr (10, mF a σ)) from rfl)) (hc := (show vwCl[10]? = some (RX11, TX11, 30) from rfl)) hK (c_fails hE a σ 2 ⟨by omega, by omega⟩) mokX11_fails w1172 w1174 wps1_9 ⟨Nat.le_of_ble_eq_true rfl, Nat.le_of_ble_eq_true rfl⟩ rfl (Nat.le_of_ble_eq_true rfl) ⟨Nat.le_refl _, Nat.le_refl _⟩ dX11_keepTwoRests_32 (fun v w p_9 => ?_)
        obtain ⟨rfl, rfl⟩ := p_9
        show V K sX11_keepTwoRests 0 0 (mW a (up σ 1 29 2)) _ [.int (zI (bz (decide (0 < 2))))] 35
        refine V_ifd_eq (tgt := 42) dX11_keepTwoRests_35 (by decide) (fun h => absurd (by decide) h) (fun _ => ?_)
        refine V_iconst dX11_keepTwoRests_38 ?_
        refine V_goto (tgt := 50) dX11_keepTwoRests_39 (by decide) ?_
        refine V_iret hR rfl (Nat.le_refl _) (Nat.le_refl _) dX11_keepTwoRests_50 ?_
        exact pub ((gd_t c_2).trans (gd_f (fun h => c_8 h.2))) rfl rfl ((hP).up (by decide))
      · refine V_iconst dX11_keepTwoRests_27 ?_
        refine V_goto (tgt := 32) dX11_keepTwoRests_28 (by decide) ?_
        refine V_callVF (As := [.int (zI 0)]) (b := a 0) (hb := (show (mW a σ)[0]? = some (a 0, .inr (10, mF a σ)) from rfl)) (hc := (show vwCl[10]? = some (RX11, TX11, 30) from rfl)) hK (c_fails hE a σ 0 ⟨by omega, by omega⟩) mokX11_fails w1172 w1174 wps1_9 ⟨Nat.le_of_ble_eq_true rfl, Nat.le_of_ble_eq_true rfl⟩ rfl (Nat.le_of_ble_eq_true rfl) ⟨Nat.le_refl _, Nat.le_refl _⟩ dX11_keepTwoRests_32 (fun v w p_11 => ?_)
        obtain ⟨rfl, rfl⟩ := p_11
        show V K sX11_keepTwoRests 0 0 (mW a (up σ 1 29 0)) _ [.int (zI (bz (decide (0 < 0))))] 35
        refine V_ifd_eq (tgt := 42) dX11_keepTwoRests_35 (by decide) (fun _ => ?_) (fun h => absurd h (by decide))
        refine V_aload_n dX11_keepTwoRests_42 rfl ?_
        refine V_iload_n dX11_keepTwoRests_43 rfl ?_
        refine V_iconst dX11_keepTwoRests_44 ?_
        refine V_iload_n dX11_keepTwoRests_45 rfl ?_
        refine V_iload_n dX11_keepTwoRests_46 rfl ?_
        refine V_callVF (As := [.int (zI s0), .int (zI 2), .int (zI m1), .int (zI m2)]) (b := a 0) (hb := (show (mW a (up σ 1 29 0))[0]? = some (a 0, .inr (10, mF a (up σ 1 29 0))) from rfl)) (hc := (show vwCl[10]? = some (RX11, TX11, 30) from rfl)) hK (c_gives hE a (up σ 1 29 0) s0 2 m1 m2 P ⟨hM, ((hP).up (by decide)), (by omega), hM.kp (Or.inr (Or.inr (Or.inl ⟨rfl, c_4.1, c_4.2, c_8.1, c_8.2⟩)))⟩) mokX11_gives w1339 w1341 wps2_14 ⟨Nat.le_of_ble_eq_true rfl, Nat.le_of_ble_eq_true rfl⟩ rfl (Nat.le_of_ble_eq_true rfl) ⟨Nat.le_refl _, Nat.le_refl _⟩ dX11_keepTwoRests_47 (fun v w p_13 => ?_)
        obtain ⟨rfl, rfl⟩ := p_13
        show V K sX11_keepTwoRests 0 0 (mW a (kp (up σ 1 29 0) s0 2 m1 m2)) _ [.int (zI (sz (kp P s0 2 m1 m2) s0))] 50
        refine V_iret hR rfl (Nat.le_refl _) (Nat.le_refl _) dX11_keepTwoRests_50 ?_
        exact pub ((gd_t c_2).trans (gd_t ⟨c_4, c_8⟩)) rfl rfl ((((hP).up (by decide))).kp _ _ _ _)
  · refine V_iconst dX11_keepTwoRests_9 ?_
    refine V_goto (tgt := 32) dX11_keepTwoRests_10 (by decide) ?_
    refine V_callVF (As := [.int (zI 1)]) (b := a 0) (hb := (show (mW a σ)[0]? = some (a 0, .inr (10, mF a σ)) from rfl)) (hc := (show vwCl[10]? = some (RX11, TX11, 30) from rfl)) hK (c_fails hE a σ 1 ⟨by omega, by omega⟩) mokX11_fails w1172 w1174 wps1_9 ⟨Nat.le_of_ble_eq_true rfl, Nat.le_of_ble_eq_true rfl⟩ rfl (Nat.le_of_ble_eq_true rfl) ⟨Nat.le_refl _, Nat.le_refl _⟩ dX11_keepTwoRests_32 (fun v w p_14 => ?_)
    obtain ⟨rfl, rfl⟩ := p_14
    show V K sX11_keepTwoRests 0 0 (mW a (up σ 1 29 1)) _ [.int (zI (bz (decide (0 < 1))))] 35
    refine V_ifd_eq (tgt := 42) dX11_keepTwoRests_35 (by decide) (fun h => absurd (by decide) h) (fun _ => ?_)
    refine V_iconst dX11_keepTwoRests_38 ?_
    refine V_goto (tgt := 50) dX11_keepTwoRests_39 (by decide) ?_
    refine V_iret hR rfl (Nat.le_refl _) (Nat.le_refl _) dX11_keepTwoRests_50 ?_
    exact pub (gd_f c_2) rfl rfl ((hP).up (by decide))
set_option maxRecDepth 100000 in
set_option maxHeartbeats 4000000 in
theorem c_keepSlant {E : EV} (hE : Stb E) (a : Nat → Nat) (σ : St) (s0 : Int) (l0 : Int) (m : Int) (P : St) (hp : MI P ∧ PR P σ ∧ iR s0 ∧ iR l0 ∧ iR m) : MC E yX11_keepSlant sX11_keepSlant [.ref (a 0), .int (zI s0), .int (zI l0), .int (zI m)] (mW a σ) (fun v w => ∃ σ2 : St, v = some (.int (zI ((sp_keepSlant P s0 l0 m).2.1))) ∧ w = mW a σ2 ∧ (σ2 1 29 = (sp_keepSlant P s0 l0 m).1) ∧ (PR (sp_keepSlant P s0 l0 m).2.2 σ2)) := by
  refine MC.of hE [some (.ref (a 0)), some (.int (zI s0)), some (.int (zI l0)), some (.int (zI m))] 0 rfl rfl rfl (by simp [Value.category]) (Nat.le_of_ble_eq_true rfl) (fun K hK hR => ?_)
  obtain ⟨hM, hP, hp⟩ := hp
  have e0 := hP 0 (by decide) (by decide)
  have f0 : ∀ i, σ 0 i = P 0 i := fun i => by rw [e0]
  have mR := hM.1
  have mC := hM.2.1
  have mN := hM.2.2.1
  have mp := hM.pts
  have ma := hM.als
  have gR := f0 0
  have gC := f0 1
  have gN := f0 2
  have hr := hp
  obtain ⟨r0a, r0b⟩ : iR s0 := hp.1
  obtain ⟨r1a, r1b⟩ : iR l0 := hp.2.1
  obtain ⟨r2a, r2b⟩ : iR m := hp.2.2
  refine V_aload_n dX11_keepSlant_0 rfl ?_
  refine V_aload_n dX11_keepSlant_1 rfl ?_
  refine V_iload_n dX11_keepSlant_2 rfl ?_
  refine V_callVF (As := [.int (zI s0)]) (b := a 0) (hb := (show (mW a σ)[0]? = some (a 0, .inr (10, mF a σ)) from rfl)) (hc := (show vwCl[10]? = some (RX11, TX11, 30) from rfl)) hK (c_is hE a σ s0 P ⟨hM, hP, by (try refine ⟨?_, ?_⟩) <;> omega⟩) mokX11_is w1180 w1182 wps1_10 ⟨Nat.le_of_ble_eq_true rfl, Nat.le_of_ble_eq_true rfl⟩ rfl (Nat.le_of_ble_eq_true rfl) ⟨Nat.le_refl _, Nat.le_refl _⟩ dX11_keepSlant_3 (fun v w p_1 => ?_)
  obtain ⟨rfl, rfl⟩ := p_1
  show V K sX11_keepSlant 0 0 (mW a σ) _ [.int (zI (bz (decide (0 ≤ s0 ∧ s0 < P 0 2)))), .ref (a 0)] 6
  refine V_ifd_ne (tgt := 13) dX11_keepSlant_6 (by decide) (fun c_2 => ?_) (fun c_2 => ?_)
  · refine V_iload_n dX11_keepSlant_13 rfl ?_
    refine V_iconst dX11_keepSlant_14 ?_
    refine V_bipush dX11_keepSlant_15 (by decide) ?_
    refine V_callSE (As := [.int (zI l0), .int (zI 0), .int (zI 9)]) hK (c_isIn hE l0 0 9 (by refine ⟨?_, ?_, ?_⟩ <;> (try refine ⟨?_, ?_⟩) <;> omega)) mokX11_isIn w1169 w1170 ⟨Nat.le_of_ble_eq_true rfl, Nat.le_of_ble_eq_true rfl⟩ rfl (Nat.le_of_ble_eq_true rfl) ⟨Nat.le_refl _, Nat.le_refl _⟩ dX11_keepSlant_17 (fun v w p_3 => ?_)
    obtain ⟨rfl, rfl⟩ := p_3
    show V K sX11_keepSlant 0 0 (mW a σ) _ [.int (zI (bz (decide (0 ≤ l0 ∧ l0 ≤ 9)))), .ref (a 0)] 20
    refine V_ifd_eq (tgt := 34) dX11_keepSlant_20 (by decide) (fun c_4 => ?_) (fun c_4 => ?_)
    · refine V_iconst dX11_keepSlant_34 ?_
      refine V_callVF (As := [.int (zI 2)]) (b := a 0) (hb := (show (mW a σ)[0]? = some (a 0, .inr (10, mF a σ)) from rfl)) (hc := (show vwCl[10]? = some (RX11, TX11, 30) from rfl)) hK (c_fails hE a σ 2 ⟨by omega, by omega⟩) mokX11_fails w1172 w1174 wps1_9 ⟨Nat.le_of_ble_eq_true rfl, Nat.le_of_ble_eq_true rfl⟩ rfl (Nat.le_of_ble_eq_true rfl) ⟨Nat.le_refl _, Nat.le_refl _⟩ dX11_keepSlant_35 (fun v w p_5 => ?_)
      obtain ⟨rfl, rfl⟩ := p_5
      show V K sX11_keepSlant 0 0 (mW a (up σ 1 29 2)) _ [.int (zI (bz (decide (0 < 2))))] 38
      refine V_ifd_eq (tgt := 45) dX11_keepSlant_38 (by decide) (fun h => absurd (by decide) h) (fun _ => ?_)
      refine V_iconst dX11_keepSlant_41 ?_
      refine V_goto (tgt := 53) dX11_keepSlant_42 (by decide) ?_
      refine V_iret hR rfl (Nat.le_refl _) (Nat.le_refl _) dX11_keepSlant_53 ?_
      exact pub ((gd_t c_2).trans (gd_f (fun h => c_4 h.1))) rfl rfl ((hP).up (by decide))
    · refine V_iload_n dX11_keepSlant_23 rfl ?_
      refine V_callSE (As := [.int (zI m)]) hK (c_isModulus hE m ⟨by omega, by omega⟩) mokX11_isModulus w1351 w1352 ⟨Nat.le_of_ble_eq_true rfl, Nat.le_of_ble_eq_true rfl⟩ rfl (Nat.le_of_ble_eq_true rfl) ⟨Nat.le_refl _, Nat.le_refl _⟩ dX11_keepSlant_24 (fun v w p_7 => ?_)
      obtain ⟨rfl, rfl⟩ := p_7
      show V K sX11_keepSlant 0 0 (mW a σ) _ [.int (zI (bz (decide (1 ≤ m ∧ m ≤ 99)))), .ref (a 0)] 27
      refine V_ifd_eq (tgt := 34) dX11_keepSlant_27 (by decide) (fun c_8 => ?_) (fun c_8 => ?_)
      · refine V_iconst dX11_keepSlant_34 ?_
        refine V_callVF (As := [.int (zI 2)]) (b := a 0) (hb := (show (mW a σ)[0]? = some (a 0, .inr (10, mF a σ)) from rfl)) (hc := (show vwCl[10]? = some (RX11, TX11, 30) from rfl)) hK (c_fails hE a σ 2 ⟨by omega, by omega⟩) mokX11_fails w1172 w1174 wps1_9 ⟨Nat.le_of_ble_eq_true rfl, Nat.le_of_ble_eq_true rfl⟩ rfl (Nat.le_of_ble_eq_true rfl) ⟨Nat.le_refl _, Nat.le_refl _⟩ dX11_keepSlant_35 (fun v w p_9 => ?_)
        obtain ⟨rfl, rfl⟩ := p_9
        show V K sX11_keepSlant 0 0 (mW a (up σ 1 29 2)) _ [.int (zI (bz (decide (0 < 2))))] 38
        refine V_ifd_eq (tgt := 45) dX11_keepSlant_38 (by decide) (fun h => absurd (by decide) h) (fun _ => ?_)
        refine V_iconst dX11_keepSlant_41 ?_
        refine V_goto (tgt := 53) dX11_keepSlant_42 (by decide) ?_
        refine V_iret hR rfl (Nat.le_refl _) (Nat.le_refl _) dX11_keepSlant_53 ?_
        exact pub ((gd_t c_2).trans (gd_f (fun h => c_8 h.2))) rfl rfl ((hP).up (by decide))
      · refine V_iconst dX11_keepSlant_30 ?_
        refine V_goto (tgt := 35) dX11_keepSlant_31 (by decide) ?_
        refine V_callVF (As := [.int (zI 0)]) (b := a 0) (hb := (show (mW a σ)[0]? = some (a 0, .inr (10, mF a σ)) from rfl)) (hc := (show vwCl[10]? = some (RX11, TX11, 30) from rfl)) hK (c_fails hE a σ 0 ⟨by omega, by omega⟩) mokX11_fails w1172 w1174 wps1_9 ⟨Nat.le_of_ble_eq_true rfl, Nat.le_of_ble_eq_true rfl⟩ rfl (Nat.le_of_ble_eq_true rfl) ⟨Nat.le_refl _, Nat.le_refl _⟩ dX11_keepSlant_35 (fun v w p_11 => ?_)
        obtain ⟨rfl, rfl⟩ := p_11
        show V K sX11_keepSlant 0 0 (mW a (up σ 1 29 0)) _ [.int (zI (bz (decide (0 < 0))))] 38
        refine V_ifd_eq (tgt := 45) dX11_keepSlant_38 (by decide) (fun _ => ?_) (fun h => absurd h (by decide))
        refine V_aload_n dX11_keepSlant_45 rfl ?_
        refine V_iload_n dX11_keepSlant_46 rfl ?_
        refine V_iconst dX11_keepSlant_47 ?_
        refine V_iload_n dX11_keepSlant_48 rfl ?_
        refine V_iload_n dX11_keepSlant_49 rfl ?_
        refine V_callVF (As := [.int (zI s0), .int (zI 3), .int (zI l0), .int (zI m)]) (b := a 0) (hb := (show (mW a (up σ 1 29 0))[0]? = some (a 0, .inr (10, mF a (up σ 1 29 0))) from rfl)) (hc := (show vwCl[10]? = some (RX11, TX11, 30) from rfl)) hK (c_gives hE a (up σ 1 29 0) s0 3 l0 m P ⟨hM, ((hP).up (by decide)), (by omega), hM.kp (Or.inr (Or.inr (Or.inr ⟨rfl, c_4.1, c_4.2, c_8.1, c_8.2⟩)))⟩) mokX11_gives w1339 w1341 wps2_14 ⟨Nat.le_of_ble_eq_true rfl, Nat.le_of_ble_eq_true rfl⟩ rfl (Nat.le_of_ble_eq_true rfl) ⟨Nat.le_refl _, Nat.le_refl _⟩ dX11_keepSlant_50 (fun v w p_13 => ?_)
        obtain ⟨rfl, rfl⟩ := p_13
        show V K sX11_keepSlant 0 0 (mW a (kp (up σ 1 29 0) s0 3 l0 m)) _ [.int (zI (sz (kp P s0 3 l0 m) s0))] 53
        refine V_iret hR rfl (Nat.le_refl _) (Nat.le_refl _) dX11_keepSlant_53 ?_
        exact pub ((gd_t c_2).trans (gd_t ⟨c_4, c_8⟩)) rfl rfl ((((hP).up (by decide))).kp _ _ _ _)
  · refine V_iconst dX11_keepSlant_9 ?_
    refine V_goto (tgt := 35) dX11_keepSlant_10 (by decide) ?_
    refine V_callVF (As := [.int (zI 1)]) (b := a 0) (hb := (show (mW a σ)[0]? = some (a 0, .inr (10, mF a σ)) from rfl)) (hc := (show vwCl[10]? = some (RX11, TX11, 30) from rfl)) hK (c_fails hE a σ 1 ⟨by omega, by omega⟩) mokX11_fails w1172 w1174 wps1_9 ⟨Nat.le_of_ble_eq_true rfl, Nat.le_of_ble_eq_true rfl⟩ rfl (Nat.le_of_ble_eq_true rfl) ⟨Nat.le_refl _, Nat.le_refl _⟩ dX11_keepSlant_35 (fun v w p_14 => ?_)
    obtain ⟨rfl, rfl⟩ := p_14
    show V K sX11_keepSlant 0 0 (mW a (up σ 1 29 1)) _ [.int (zI (bz (decide (0 < 1))))] 38
    refine V_ifd_eq (tgt := 45) dX11_keepSlant_38 (by decide) (fun h => absurd (by decide) h) (fun _ => ?_)
    refine V_iconst dX11_keepSlant_41 ?_
    refine V_goto (tgt := 53) dX11_keepSlant_42 (by decide) ?_
    refine V_iret hR rfl (Nat.le_refl _) (Nat.le_refl _) dX11_keepSlant_53 ?_
    exact pub (gd_f c_2) rfl rfl ((hP).up (by decide))
set_option maxRecDepth 100000 in
set_option maxHeartbeats 4000000 in
theorem c_placeOf {E : EV} (hE : Stb E) (a : Nat → Nat) (σ : St) (s0 : Int) (i : Int) (j : Int) (P : St) (hp : MI P ∧ PR P σ ∧ iR s0 ∧ iR i ∧ iR j) : MC E yX11_placeOf sX11_placeOf [.ref (a 0), .int (zI s0), .int (zI i), .int (zI j)] (mW a σ) (fun v w => ∃ σ2 : St, v = some (.int (zI ((sp_placeOf P s0 i j).2.1))) ∧ w = mW a σ2 ∧ (σ2 1 29 = (sp_placeOf P s0 i j).1) ∧ (PR (sp_placeOf P s0 i j).2.2 σ2)) := by
  refine MC.of hE [some (.ref (a 0)), some (.int (zI s0)), some (.int (zI i)), some (.int (zI j))] 0 rfl rfl rfl (by simp [Value.category]) (Nat.le_of_ble_eq_true rfl) (fun K hK hR => ?_)
  obtain ⟨hM, hP, hp⟩ := hp
  have e0 := hP 0 (by decide) (by decide)
  have f0 : ∀ i, σ 0 i = P 0 i := fun i => by rw [e0]
  have mR := hM.1
  have mC := hM.2.1
  have mN := hM.2.2.1
  have mp := hM.pts
  have ma := hM.als
  have gR := f0 0
  have gC := f0 1
  have gN := f0 2
  have hr := hp
  obtain ⟨r0a, r0b⟩ : iR s0 := hp.1
  obtain ⟨r1a, r1b⟩ : iR i := hp.2.1
  obtain ⟨r2a, r2b⟩ : iR j := hp.2.2
  refine V_aload_n dX11_placeOf_0 rfl ?_
  refine V_aload_n dX11_placeOf_1 rfl ?_
  refine V_iload_n dX11_placeOf_2 rfl ?_
  refine V_iload_n dX11_placeOf_3 rfl ?_
  refine V_iload_n dX11_placeOf_4 rfl ?_
  refine V_callVF (As := [.int (zI s0), .int (zI i), .int (zI j)]) (b := a 0) (hb := (show (mW a σ)[0]? = some (a 0, .inr (10, mF a σ)) from rfl)) (hc := (show vwCl[10]? = some (RX11, TX11, 30) from rfl)) hK (c_isCell hE a σ s0 i j P ⟨hM, hP, by refine ⟨?_, ?_, ?_⟩ <;> (try refine ⟨?_, ?_⟩) <;> omega⟩) mokX11_isCell w1275 w1277 wps2_7 ⟨Nat.le_of_ble_eq_true rfl, Nat.le_of_ble_eq_true rfl⟩ rfl (Nat.le_of_ble_eq_true rfl) ⟨Nat.le_refl _, Nat.le_refl _⟩ dX11_placeOf_5 (fun v w p_1 => ?_)
  obtain ⟨rfl, rfl⟩ := p_1
  show V K sX11_placeOf 0 0 (mW a σ) _ [.int (zI (bz (decide ((0 ≤ s0 ∧ s0 < P 0 2) ∧ 0 ≤ i ∧ i < P 0 0 ∧ 0 ≤ j ∧ j < P 0 1)))), .ref (a 0)] 8
  refine V_ifd_eq (tgt := 15) dX11_placeOf_8 (by decide) (fun c_2 => ?_) (fun c_2 => ?_)
  · refine V_iconst dX11_placeOf_15 ?_
    refine V_callVF (As := [.int (zI 1)]) (b := a 0) (hb := (show (mW a σ)[0]? = some (a 0, .inr (10, mF a σ)) from rfl)) (hc := (show vwCl[10]? = some (RX11, TX11, 30) from rfl)) hK (c_fails hE a σ 1 ⟨by omega, by omega⟩) mokX11_fails w1172 w1174 wps1_9 ⟨Nat.le_of_ble_eq_true rfl, Nat.le_of_ble_eq_true rfl⟩ rfl (Nat.le_of_ble_eq_true rfl) ⟨Nat.le_refl _, Nat.le_refl _⟩ dX11_placeOf_16 (fun v w p_3 => ?_)
    obtain ⟨rfl, rfl⟩ := p_3
    show V K sX11_placeOf 0 0 (mW a (up σ 1 29 1)) _ [.int (zI (bz (decide (0 < 1))))] 19
    refine V_ifd_eq (tgt := 26) dX11_placeOf_19 (by decide) (fun h => absurd (by decide) h) (fun _ => ?_)
    refine V_iconst dX11_placeOf_22 ?_
    refine V_goto (tgt := 37) dX11_placeOf_23 (by decide) ?_
    refine V_iret hR rfl (Nat.le_refl _) (Nat.le_refl _) dX11_placeOf_37 ?_
    exact pub (gd_f c_2) rfl rfl ((hP).up (by decide))
  · refine V_iconst dX11_placeOf_11 ?_
    refine V_goto (tgt := 16) dX11_placeOf_12 (by decide) ?_
    refine V_callVF (As := [.int (zI 0)]) (b := a 0) (hb := (show (mW a σ)[0]? = some (a 0, .inr (10, mF a σ)) from rfl)) (hc := (show vwCl[10]? = some (RX11, TX11, 30) from rfl)) hK (c_fails hE a σ 0 ⟨by omega, by omega⟩) mokX11_fails w1172 w1174 wps1_9 ⟨Nat.le_of_ble_eq_true rfl, Nat.le_of_ble_eq_true rfl⟩ rfl (Nat.le_of_ble_eq_true rfl) ⟨Nat.le_refl _, Nat.le_refl _⟩ dX11_placeOf_16 (fun v w p_5 => ?_)
    obtain ⟨rfl, rfl⟩ := p_5
    show V K sX11_placeOf 0 0 (mW a (up σ 1 29 0)) _ [.int (zI (bz (decide (0 < 0))))] 19
    refine V_ifd_eq (tgt := 26) dX11_placeOf_19 (by decide) (fun _ => ?_) (fun h => absurd h (by decide))
    have hcb := cc_b hM c_2
    have kb := cid_b hM hcb.1.1 hcb.1.2
    rw [hcb.2.1] at kb
    refine V_aload_n dX11_placeOf_26 rfl ?_
    refine V_aload_n dX11_placeOf_27 rfl ?_
    refine V_iload_n dX11_placeOf_28 rfl ?_
    refine V_iload_n dX11_placeOf_29 rfl ?_
    refine V_iload_n dX11_placeOf_30 rfl ?_
    refine V_callVF (As := [.int (zI s0), .int (zI i), .int (zI j)]) (b := a 0) (hb := (show (mW a (up σ 1 29 0))[0]? = some (a 0, .inr (10, mF a (up σ 1 29 0))) from rfl)) (hc := (show vwCl[10]? = some (RX11, TX11, 30) from rfl)) hK (c_cell hE a (up σ 1 29 0) s0 i j P ⟨hM, ((hP).up (by decide))⟩) mokX11_cell w1243 w1245 wps2_5 ⟨Nat.le_of_ble_eq_true rfl, Nat.le_of_ble_eq_true rfl⟩ rfl (Nat.le_of_ble_eq_true rfl) ⟨Nat.le_refl _, Nat.le_refl _⟩ dX11_placeOf_31 (fun v w p_7 => ?_)
    obtain ⟨rfl, rfl⟩ := p_7
    show V K sX11_placeOf 0 0 (mW a (up σ 1 29 0)) _ [.int (zI (64 * s0 + i * P 0 1 + j)), .ref (a 0)] 34
    refine V_callVF (As := [.int (zI (64 * s0 + i * P 0 1 + j))]) (b := a 0) (hb := (show (mW a (up σ 1 29 0))[0]? = some (a 0, .inr (10, mF a (up σ 1 29 0))) from rfl)) (hc := (show vwCl[10]? = some (RX11, TX11, 30) from rfl)) hK (c_place hE a (up σ 1 29 0) (64 * s0 + i * P 0 1 + j) P (cc P s0 i j) ⟨hM, ((hP).up (by decide)), hcb.1, hcb.2.1.symm⟩) mokX11_place w1410 w1412 wps3_8 ⟨Nat.le_of_ble_eq_true rfl, Nat.le_of_ble_eq_true rfl⟩ rfl (Nat.le_of_ble_eq_true rfl) ⟨Nat.le_refl _, Nat.le_refl _⟩ dX11_placeOf_34 (fun v w p_8 => ?_)
    obtain ⟨rfl, rfl⟩ := p_8
    show V K sX11_placeOf 0 0 (mW a (up σ 1 29 0)) _ [.int (zI (plc P ((cc P s0 i j) / pt P) ((cc P s0 i j) % pt P)))] 37
    refine V_iret hR rfl (Nat.le_refl _) (Nat.le_refl _) dX11_placeOf_37 ?_
    exact pub (gd_t c_2) (ziE (by rw [hcb.2.2.1, hcb.2.2.2])) rfl ((hP).up (by decide))
set_option maxRecDepth 100000 in
set_option maxHeartbeats 4000000 in
theorem c_leastRest {E : EV} (hE : Stb E) (a : Nat → Nat) (σ : St) (s0 : Int) (P : St) (hp : MI P ∧ PR P σ ∧ iR s0) : MC E yX11_leastRest sX11_leastRest [.ref (a 0), .int (zI s0)] (mW a σ) (fun v w => ∃ σ2 : St, v = some (.int (zI ((sp_leastRest P s0).2.1))) ∧ w = mW a σ2 ∧ (σ2 1 29 = (sp_leastRest P s0).1) ∧ (PR (sp_leastRest P s0).2.2 σ2)) := by
  refine MC.of hE [some (.ref (a 0)), some (.int (zI s0))] 0 rfl rfl rfl (by simp [Value.category]) (Nat.le_of_ble_eq_true rfl) (fun K hK hR => ?_)
  obtain ⟨hM, hP, hp⟩ := hp
  have e0 := hP 0 (by decide) (by decide)
  have f0 : ∀ i, σ 0 i = P 0 i := fun i => by rw [e0]
  have mR := hM.1
  have mC := hM.2.1
  have mN := hM.2.2.1
  have mp := hM.pts
  have ma := hM.als
  have gR := f0 0
  have gC := f0 1
  have gN := f0 2
  have hr := hp
  obtain ⟨r0a, r0b⟩ : iR s0 := hp
  refine V_aload_n dX11_leastRest_0 rfl ?_
  refine V_aload_n dX11_leastRest_1 rfl ?_
  refine V_iload_n dX11_leastRest_2 rfl ?_
  refine V_callVF (As := [.int (zI s0)]) (b := a 0) (hb := (show (mW a σ)[0]? = some (a 0, .inr (10, mF a σ)) from rfl)) (hc := (show vwCl[10]? = some (RX11, TX11, 30) from rfl)) hK (c_is hE a σ s0 P ⟨hM, hP, by (try refine ⟨?_, ?_⟩) <;> omega⟩) mokX11_is w1180 w1182 wps1_10 ⟨Nat.le_of_ble_eq_true rfl, Nat.le_of_ble_eq_true rfl⟩ rfl (Nat.le_of_ble_eq_true rfl) ⟨Nat.le_refl _, Nat.le_refl _⟩ dX11_leastRest_3 (fun v w p_1 => ?_)
  obtain ⟨rfl, rfl⟩ := p_1
  show V K sX11_leastRest 0 0 (mW a σ) _ [.int (zI (bz (decide (0 ≤ s0 ∧ s0 < P 0 2)))), .ref (a 0)] 6
  refine V_ifd_eq (tgt := 13) dX11_leastRest_6 (by decide) (fun c_2 => ?_) (fun c_2 => ?_)
  · refine V_iconst dX11_leastRest_13 ?_
    refine V_callVF (As := [.int (zI 1)]) (b := a 0) (hb := (show (mW a σ)[0]? = some (a 0, .inr (10, mF a σ)) from rfl)) (hc := (show vwCl[10]? = some (RX11, TX11, 30) from rfl)) hK (c_fails hE a σ 1 ⟨by omega, by omega⟩) mokX11_fails w1172 w1174 wps1_9 ⟨Nat.le_of_ble_eq_true rfl, Nat.le_of_ble_eq_true rfl⟩ rfl (Nat.le_of_ble_eq_true rfl) ⟨Nat.le_refl _, Nat.le_refl _⟩ dX11_leastRest_14 (fun v w p_3 => ?_)
    obtain ⟨rfl, rfl⟩ := p_3
    show V K sX11_leastRest 0 0 (mW a (up σ 1 29 1)) _ [.int (zI (bz (decide (0 < 1))))] 17
    refine V_ifd_eq (tgt := 22) dX11_leastRest_17 (by decide) (fun h => absurd (by decide) h) (fun _ => ?_)
    refine V_iconst dX11_leastRest_20 ?_
    refine V_iret hR rfl (Nat.le_refl _) (Nat.le_refl _) dX11_leastRest_21 ?_
    exact pub (gd_f c_2) rfl rfl ((hP).up (by decide))
  · refine V_iconst dX11_leastRest_9 ?_
    refine V_goto (tgt := 14) dX11_leastRest_10 (by decide) ?_
    refine V_callVF (As := [.int (zI 0)]) (b := a 0) (hb := (show (mW a σ)[0]? = some (a 0, .inr (10, mF a σ)) from rfl)) (hc := (show vwCl[10]? = some (RX11, TX11, 30) from rfl)) hK (c_fails hE a σ 0 ⟨by omega, by omega⟩) mokX11_fails w1172 w1174 wps1_9 ⟨Nat.le_of_ble_eq_true rfl, Nat.le_of_ble_eq_true rfl⟩ rfl (Nat.le_of_ble_eq_true rfl) ⟨Nat.le_refl _, Nat.le_refl _⟩ dX11_leastRest_14 (fun v w p_5 => ?_)
    obtain ⟨rfl, rfl⟩ := p_5
    show V K sX11_leastRest 0 0 (mW a (up σ 1 29 0)) _ [.int (zI (bz (decide (0 < 0))))] 17
    refine V_ifd_eq (tgt := 22) dX11_leastRest_17 (by decide) (fun _ => ?_) (fun h => absurd h (by decide))
    refine V_aload_n dX11_leastRest_22 rfl ?_
    refine V_iload_n dX11_leastRest_23 rfl ?_
    refine V_callVF (As := [.int (zI s0)]) (b := a 0) (hb := (show (mW a (up σ 1 29 0))[0]? = some (a 0, .inr (10, mF a (up σ 1 29 0))) from rfl)) (hc := (show vwCl[10]? = some (RX11, TX11, 30) from rfl)) hK (c_seeks hE a (up σ 1 29 0) s0 P ⟨hM, ((hP).up (by decide)), c_2.1, c_2.2⟩) mokX11_seeks w1422 w1424 wps3_9 ⟨Nat.le_of_ble_eq_true rfl, Nat.le_of_ble_eq_true rfl⟩ rfl (Nat.le_of_ble_eq_true rfl) ⟨Nat.le_refl _, Nat.le_refl _⟩ dX11_leastRest_24 (fun v w p_7 => ?_)
    obtain ⟨σ_8, rfl, rfl, q_9, q_10⟩ := p_7
    show V K sX11_leastRest 0 0 (mW a σ_8) _ [] 27
    refine V_aload_n dX11_leastRest_27 rfl ?_
    refine V_callVF (As := []) (b := a 0) (hb := (show (mW a σ_8)[0]? = some (a 0, .inr (10, mF a σ_8)) from rfl)) (hc := (show vwCl[10]? = some (RX11, TX11, 30) from rfl)) hK (c_rest hE a σ_8 P (P 0 11) (P 0 12) s0 ⟨hM, ((((hP).up (by decide))).fr q_9 (by decide)), q_10⟩) mokX11_rest w1370 w1372 wps3_1 ⟨Nat.le_of_ble_eq_true rfl, Nat.le_of_ble_eq_true rfl⟩ rfl (Nat.le_of_ble_eq_true rfl) ⟨Nat.le_refl _, Nat.le_refl _⟩ dX11_leastRest_28 (fun v w p_11 => ?_)
    obtain ⟨rfl, rfl⟩ := p_11
    show V K sX11_leastRest 0 0 (mW a σ_8) _ [.int (zI (lr P (P 0 11) (P 0 12) s0))] 31
    refine V_iret hR rfl (Nat.le_refl _) (Nat.le_refl _) dX11_leastRest_31 ?_
    exact pub (gd_t c_2) rfl ((congrFun (q_9 1 (by decide)) 29).trans (rfl)) ((((hP).up (by decide))).fr q_9 (by decide))
set_option maxRecDepth 100000 in
set_option maxHeartbeats 4000000 in
theorem c_leastRowRest {E : EV} (hE : Stb E) (a : Nat → Nat) (σ : St) (s0 : Int) (P : St) (hp : MI P ∧ PR P σ ∧ iR s0) : MC E yX11_leastRowRest sX11_leastRowRest [.ref (a 0), .int (zI s0)] (mW a σ) (fun v w => ∃ σ2 : St, v = some (.int (zI ((sp_leastRowRest P s0).2.1))) ∧ w = mW a σ2 ∧ (σ2 1 29 = (sp_leastRowRest P s0).1) ∧ (PR (sp_leastRowRest P s0).2.2 σ2)) := by
  refine MC.of hE [some (.ref (a 0)), some (.int (zI s0))] 0 rfl rfl rfl (by simp [Value.category]) (Nat.le_of_ble_eq_true rfl) (fun K hK hR => ?_)
  obtain ⟨hM, hP, hp⟩ := hp
  have e0 := hP 0 (by decide) (by decide)
  have f0 : ∀ i, σ 0 i = P 0 i := fun i => by rw [e0]
  have mR := hM.1
  have mC := hM.2.1
  have mN := hM.2.2.1
  have mp := hM.pts
  have ma := hM.als
  have gR := f0 0
  have gC := f0 1
  have gN := f0 2
  have hr := hp
  obtain ⟨r0a, r0b⟩ : iR s0 := hp
  refine V_aload_n dX11_leastRowRest_0 rfl ?_
  refine V_aload_n dX11_leastRowRest_1 rfl ?_
  refine V_iload_n dX11_leastRowRest_2 rfl ?_
  refine V_callVF (As := [.int (zI s0)]) (b := a 0) (hb := (show (mW a σ)[0]? = some (a 0, .inr (10, mF a σ)) from rfl)) (hc := (show vwCl[10]? = some (RX11, TX11, 30) from rfl)) hK (c_is hE a σ s0 P ⟨hM, hP, by (try refine ⟨?_, ?_⟩) <;> omega⟩) mokX11_is w1180 w1182 wps1_10 ⟨Nat.le_of_ble_eq_true rfl, Nat.le_of_ble_eq_true rfl⟩ rfl (Nat.le_of_ble_eq_true rfl) ⟨Nat.le_refl _, Nat.le_refl _⟩ dX11_leastRowRest_3 (fun v w p_1 => ?_)
  obtain ⟨rfl, rfl⟩ := p_1
  show V K sX11_leastRowRest 0 0 (mW a σ) _ [.int (zI (bz (decide (0 ≤ s0 ∧ s0 < P 0 2)))), .ref (a 0)] 6
  refine V_ifd_eq (tgt := 13) dX11_leastRowRest_6 (by decide) (fun c_2 => ?_) (fun c_2 => ?_)
  · refine V_iconst dX11_leastRowRest_13 ?_
    refine V_callVF (As := [.int (zI 1)]) (b := a 0) (hb := (show (mW a σ)[0]? = some (a 0, .inr (10, mF a σ)) from rfl)) (hc := (show vwCl[10]? = some (RX11, TX11, 30) from rfl)) hK (c_fails hE a σ 1 ⟨by omega, by omega⟩) mokX11_fails w1172 w1174 wps1_9 ⟨Nat.le_of_ble_eq_true rfl, Nat.le_of_ble_eq_true rfl⟩ rfl (Nat.le_of_ble_eq_true rfl) ⟨Nat.le_refl _, Nat.le_refl _⟩ dX11_leastRowRest_14 (fun v w p_3 => ?_)
    obtain ⟨rfl, rfl⟩ := p_3
    show V K sX11_leastRowRest 0 0 (mW a (up σ 1 29 1)) _ [.int (zI (bz (decide (0 < 1))))] 17
    refine V_ifd_eq (tgt := 22) dX11_leastRowRest_17 (by decide) (fun h => absurd (by decide) h) (fun _ => ?_)
    refine V_iconst dX11_leastRowRest_20 ?_
    refine V_iret hR rfl (Nat.le_refl _) (Nat.le_refl _) dX11_leastRowRest_21 ?_
    exact pub (gd_f c_2) rfl rfl ((hP).up (by decide))
  · refine V_iconst dX11_leastRowRest_9 ?_
    refine V_goto (tgt := 14) dX11_leastRowRest_10 (by decide) ?_
    refine V_callVF (As := [.int (zI 0)]) (b := a 0) (hb := (show (mW a σ)[0]? = some (a 0, .inr (10, mF a σ)) from rfl)) (hc := (show vwCl[10]? = some (RX11, TX11, 30) from rfl)) hK (c_fails hE a σ 0 ⟨by omega, by omega⟩) mokX11_fails w1172 w1174 wps1_9 ⟨Nat.le_of_ble_eq_true rfl, Nat.le_of_ble_eq_true rfl⟩ rfl (Nat.le_of_ble_eq_true rfl) ⟨Nat.le_refl _, Nat.le_refl _⟩ dX11_leastRowRest_14 (fun v w p_5 => ?_)
    obtain ⟨rfl, rfl⟩ := p_5
    show V K sX11_leastRowRest 0 0 (mW a (up σ 1 29 0)) _ [.int (zI (bz (decide (0 < 0))))] 17
    refine V_ifd_eq (tgt := 22) dX11_leastRowRest_17 (by decide) (fun _ => ?_) (fun h => absurd h (by decide))
    refine V_aload_n dX11_leastRowRest_22 rfl ?_
    refine V_iload_n dX11_leastRowRest_23 rfl ?_
    refine V_callVF (As := [.int (zI s0)]) (b := a 0) (hb := (show (mW a (up σ 1 29 0))[0]? = some (a 0, .inr (10, mF a (up σ 1 29 0))) from rfl)) (hc := (show vwCl[10]? = some (RX11, TX11, 30) from rfl)) hK (c_seeks hE a (up σ 1 29 0) s0 P ⟨hM, ((hP).up (by decide)), c_2.1, c_2.2⟩) mokX11_seeks w1422 w1424 wps3_9 ⟨Nat.le_of_ble_eq_true rfl, Nat.le_of_ble_eq_true rfl⟩ rfl (Nat.le_of_ble_eq_true rfl) ⟨Nat.le_refl _, Nat.le_refl _⟩ dX11_leastRowRest_24 (fun v w p_7 => ?_)
    obtain ⟨σ_8, rfl, rfl, q_9, q_10⟩ := p_7
    show V K sX11_leastRowRest 0 0 (mW a σ_8) _ [] 27
    refine V_aload_n dX11_leastRowRest_27 rfl ?_
    refine V_callVF (As := []) (b := a 0) (hb := (show (mW a σ_8)[0]? = some (a 0, .inr (10, mF a σ_8)) from rfl)) (hc := (show vwCl[10]? = some (RX11, TX11, 30) from rfl)) hK (c_two hE a σ_8 P (P 0 11) (P 0 12) s0 ⟨hM, ((((hP).up (by decide))).fr q_9 (by decide)), q_10⟩) mokX11_two w1378 w1380 wps3_3 ⟨Nat.le_of_ble_eq_true rfl, Nat.le_of_ble_eq_true rfl⟩ rfl (Nat.le_of_ble_eq_true rfl) ⟨Nat.le_refl _, Nat.le_refl _⟩ dX11_leastRowRest_28 (fun v w p_11 => ?_)
    obtain ⟨rfl, rfl⟩ := p_11
    show V K sX11_leastRowRest 0 0 (mW a σ_8) _ [.int (zI (100 * tw1 P (P 0 11) (P 0 12) s0 + tw2 P (P 0 11) (P 0 12) s0))] 31
    have tb := two_b hM (P 0 11) (P 0 12) s0
    refine V_bipush dX11_leastRowRest_31 (by decide) ?_
    refine V_idiv dX11_leastRowRest_33 ⟨⟨by omega, by omega⟩, ⟨by omega, by omega⟩, by omega, by omega⟩ ?_
    refine V_iret hR rfl (Nat.le_refl _) (Nat.le_refl _) dX11_leastRowRest_34 ?_
    exact pub (gd_t c_2) (ziE (by omega)) ((congrFun (q_9 1 (by decide)) 29).trans (rfl)) ((((hP).up (by decide))).fr q_9 (by decide))
set_option maxRecDepth 100000 in
set_option maxHeartbeats 4000000 in
theorem c_leastColumnRest {E : EV} (hE : Stb E) (a : Nat → Nat) (σ : St) (s0 : Int) (P : St) (hp : MI P ∧ PR P σ ∧ iR s0) : MC E yX11_leastColumnRest sX11_leastColumnRest [.ref (a 0), .int (zI s0)] (mW a σ) (fun v w => ∃ σ2 : St, v = some (.int (zI ((sp_leastColumnRest P s0).2.1))) ∧ w = mW a σ2 ∧ (σ2 1 29 = (sp_leastColumnRest P s0).1) ∧ (PR (sp_leastColumnRest P s0).2.2 σ2)) := by
  refine MC.of hE [some (.ref (a 0)), some (.int (zI s0))] 0 rfl rfl rfl (by simp [Value.category]) (Nat.le_of_ble_eq_true rfl) (fun K hK hR => ?_)
  obtain ⟨hM, hP, hp⟩ := hp
  have e0 := hP 0 (by decide) (by decide)
  have f0 : ∀ i, σ 0 i = P 0 i := fun i => by rw [e0]
  have mR := hM.1
  have mC := hM.2.1
  have mN := hM.2.2.1
  have mp := hM.pts
  have ma := hM.als
  have gR := f0 0
  have gC := f0 1
  have gN := f0 2
  have hr := hp
  obtain ⟨r0a, r0b⟩ : iR s0 := hp
  refine V_aload_n dX11_leastColumnRest_0 rfl ?_
  refine V_aload_n dX11_leastColumnRest_1 rfl ?_
  refine V_iload_n dX11_leastColumnRest_2 rfl ?_
  refine V_callVF (As := [.int (zI s0)]) (b := a 0) (hb := (show (mW a σ)[0]? = some (a 0, .inr (10, mF a σ)) from rfl)) (hc := (show vwCl[10]? = some (RX11, TX11, 30) from rfl)) hK (c_is hE a σ s0 P ⟨hM, hP, by (try refine ⟨?_, ?_⟩) <;> omega⟩) mokX11_is w1180 w1182 wps1_10 ⟨Nat.le_of_ble_eq_true rfl, Nat.le_of_ble_eq_true rfl⟩ rfl (Nat.le_of_ble_eq_true rfl) ⟨Nat.le_refl _, Nat.le_refl _⟩ dX11_leastColumnRest_3 (fun v w p_1 => ?_)
  obtain ⟨rfl, rfl⟩ := p_1
  show V K sX11_leastColumnRest 0 0 (mW a σ) _ [.int (zI (bz (decide (0 ≤ s0 ∧ s0 < P 0 2)))), .ref (a 0)] 6
  refine V_ifd_eq (tgt := 13) dX11_leastColumnRest_6 (by decide) (fun c_2 => ?_) (fun c_2 => ?_)
  · refine V_iconst dX11_leastColumnRest_13 ?_
    refine V_callVF (As := [.int (zI 1)]) (b := a 0) (hb := (show (mW a σ)[0]? = some (a 0, .inr (10, mF a σ)) from rfl)) (hc := (show vwCl[10]? = some (RX11, TX11, 30) from rfl)) hK (c_fails hE a σ 1 ⟨by omega, by omega⟩) mokX11_fails w1172 w1174 wps1_9 ⟨Nat.le_of_ble_eq_true rfl, Nat.le_of_ble_eq_true rfl⟩ rfl (Nat.le_of_ble_eq_true rfl) ⟨Nat.le_refl _, Nat.le_refl _⟩ dX11_leastColumnRest_14 (fun v w p_3 => ?_)
    obtain ⟨rfl, rfl⟩ := p_3
    show V K sX11_leastColumnRest 0 0 (mW a (up σ 1 29 1)) _ [.int (zI (bz (decide (0 < 1))))] 17
    refine V_ifd_eq (tgt := 22) dX11_leastColumnRest_17 (by decide) (fun h => absurd (by decide) h) (fun _ => ?_)
    refine V_iconst dX11_leastColumnRest_20 ?_
    refine V_iret hR rfl (Nat.le_refl _) (Nat.le_refl _) dX11_leastColumnRest_21 ?_
    exact pub (gd_f c_2) rfl rfl ((hP).up (by decide))
  · refine V_iconst dX11_leastColumnRest_9 ?_
    refine V_goto (tgt := 14) dX11_leastColumnRest_10 (by decide) ?_
    refine V_callVF (As := [.int (zI 0)]) (b := a 0) (hb := (show (mW a σ)[0]? = some (a 0, .inr (10, mF a σ)) from rfl)) (hc := (show vwCl[10]? = some (RX11, TX11, 30) from rfl)) hK (c_fails hE a σ 0 ⟨by omega, by omega⟩) mokX11_fails w1172 w1174 wps1_9 ⟨Nat.le_of_ble_eq_true rfl, Nat.le_of_ble_eq_true rfl⟩ rfl (Nat.le_of_ble_eq_true rfl) ⟨Nat.le_refl _, Nat.le_refl _⟩ dX11_leastColumnRest_14 (fun v w p_5 => ?_)
    obtain ⟨rfl, rfl⟩ := p_5
    show V K sX11_leastColumnRest 0 0 (mW a (up σ 1 29 0)) _ [.int (zI (bz (decide (0 < 0))))] 17
    refine V_ifd_eq (tgt := 22) dX11_leastColumnRest_17 (by decide) (fun _ => ?_) (fun h => absurd h (by decide))
    refine V_aload_n dX11_leastColumnRest_22 rfl ?_
    refine V_iload_n dX11_leastColumnRest_23 rfl ?_
    refine V_callVF (As := [.int (zI s0)]) (b := a 0) (hb := (show (mW a (up σ 1 29 0))[0]? = some (a 0, .inr (10, mF a (up σ 1 29 0))) from rfl)) (hc := (show vwCl[10]? = some (RX11, TX11, 30) from rfl)) hK (c_seeks hE a (up σ 1 29 0) s0 P ⟨hM, ((hP).up (by decide)), c_2.1, c_2.2⟩) mokX11_seeks w1422 w1424 wps3_9 ⟨Nat.le_of_ble_eq_true rfl, Nat.le_of_ble_eq_true rfl⟩ rfl (Nat.le_of_ble_eq_true rfl) ⟨Nat.le_refl _, Nat.le_refl _⟩ dX11_leastColumnRest_24 (fun v w p_7 => ?_)
    obtain ⟨σ_8, rfl, rfl, q_9, q_10⟩ := p_7
    show V K sX11_leastColumnRest 0 0 (mW a σ_8) _ [] 27
    refine V_aload_n dX11_leastColumnRest_27 rfl ?_
    refine V_callVF (As := []) (b := a 0) (hb := (show (mW a σ_8)[0]? = some (a 0, .inr (10, mF a σ_8)) from rfl)) (hc := (show vwCl[10]? = some (RX11, TX11, 30) from rfl)) hK (c_two hE a σ_8 P (P 0 11) (P 0 12) s0 ⟨hM, ((((hP).up (by decide))).fr q_9 (by decide)), q_10⟩) mokX11_two w1378 w1380 wps3_3 ⟨Nat.le_of_ble_eq_true rfl, Nat.le_of_ble_eq_true rfl⟩ rfl (Nat.le_of_ble_eq_true rfl) ⟨Nat.le_refl _, Nat.le_refl _⟩ dX11_leastColumnRest_28 (fun v w p_11 => ?_)
    obtain ⟨rfl, rfl⟩ := p_11
    show V K sX11_leastColumnRest 0 0 (mW a σ_8) _ [.int (zI (100 * tw1 P (P 0 11) (P 0 12) s0 + tw2 P (P 0 11) (P 0 12) s0))] 31
    have tb := two_b hM (P 0 11) (P 0 12) s0
    refine V_bipush dX11_leastColumnRest_31 (by decide) ?_
    refine V_iremN dX11_leastColumnRest_33 ⟨⟨by omega, by omega⟩, ⟨by omega, by omega⟩, by omega, by omega⟩ ?_
    refine V_iret hR rfl (Nat.le_refl _) (Nat.le_refl _) dX11_leastColumnRest_34 ?_
    exact pub (gd_t c_2) (ziE (by omega)) ((congrFun (q_9 1 (by decide)) 29).trans (rfl)) ((((hP).up (by decide))).fr q_9 (by decide))
set_option maxRecDepth 100000 in
set_option maxHeartbeats 4000000 in
theorem c_leastSlantModulus {E : EV} (hE : Stb E) (a : Nat → Nat) (σ : St) (s0 : Int) (P : St) (hp : MI P ∧ PR P σ ∧ iR s0) : MC E yX11_leastSlantModulus sX11_leastSlantModulus [.ref (a 0), .int (zI s0)] (mW a σ) (fun v w => ∃ σ2 : St, v = some (.int (zI ((sp_leastSlantModulus P s0).2.1))) ∧ w = mW a σ2 ∧ (σ2 1 29 = (sp_leastSlantModulus P s0).1) ∧ (PR (sp_leastSlantModulus P s0).2.2 σ2)) := by
  refine MC.of hE [some (.ref (a 0)), some (.int (zI s0))] 0 rfl rfl rfl (by simp [Value.category]) (Nat.le_of_ble_eq_true rfl) (fun K hK hR => ?_)
  obtain ⟨hM, hP, hp⟩ := hp
  have e0 := hP 0 (by decide) (by decide)
  have f0 : ∀ i, σ 0 i = P 0 i := fun i => by rw [e0]
  have mR := hM.1
  have mC := hM.2.1
  have mN := hM.2.2.1
  have mp := hM.pts
  have ma := hM.als
  have gR := f0 0
  have gC := f0 1
  have gN := f0 2
  have hr := hp
  obtain ⟨r0a, r0b⟩ : iR s0 := hp
  refine V_aload_n dX11_leastSlantModulus_0 rfl ?_
  refine V_aload_n dX11_leastSlantModulus_1 rfl ?_
  refine V_iload_n dX11_leastSlantModulus_2 rfl ?_
  refine V_callVF (As := [.int (zI s0)]) (b := a 0) (hb := (show (mW a σ)[0]? = some (a 0, .inr (10, mF a σ)) from rfl)) (hc := (show vwCl[10]? = some (RX11, TX11, 30) from rfl)) hK (c_is hE a σ s0 P ⟨hM, hP, by (try refine ⟨?_, ?_⟩) <;> omega⟩) mokX11_is w1180 w1182 wps1_10 ⟨Nat.le_of_ble_eq_true rfl, Nat.le_of_ble_eq_true rfl⟩ rfl (Nat.le_of_ble_eq_true rfl) ⟨Nat.le_refl _, Nat.le_refl _⟩ dX11_leastSlantModulus_3 (fun v w p_1 => ?_)
  obtain ⟨rfl, rfl⟩ := p_1
  show V K sX11_leastSlantModulus 0 0 (mW a σ) _ [.int (zI (bz (decide (0 ≤ s0 ∧ s0 < P 0 2)))), .ref (a 0)] 6
  refine V_ifd_eq (tgt := 13) dX11_leastSlantModulus_6 (by decide) (fun c_2 => ?_) (fun c_2 => ?_)
  · refine V_iconst dX11_leastSlantModulus_13 ?_
    refine V_callVF (As := [.int (zI 1)]) (b := a 0) (hb := (show (mW a σ)[0]? = some (a 0, .inr (10, mF a σ)) from rfl)) (hc := (show vwCl[10]? = some (RX11, TX11, 30) from rfl)) hK (c_fails hE a σ 1 ⟨by omega, by omega⟩) mokX11_fails w1172 w1174 wps1_9 ⟨Nat.le_of_ble_eq_true rfl, Nat.le_of_ble_eq_true rfl⟩ rfl (Nat.le_of_ble_eq_true rfl) ⟨Nat.le_refl _, Nat.le_refl _⟩ dX11_leastSlantModulus_14 (fun v w p_3 => ?_)
    obtain ⟨rfl, rfl⟩ := p_3
    show V K sX11_leastSlantModulus 0 0 (mW a (up σ 1 29 1)) _ [.int (zI (bz (decide (0 < 1))))] 17
    refine V_ifd_eq (tgt := 22) dX11_leastSlantModulus_17 (by decide) (fun h => absurd (by decide) h) (fun _ => ?_)
    refine V_iconst dX11_leastSlantModulus_20 ?_
    refine V_iret hR rfl (Nat.le_refl _) (Nat.le_refl _) dX11_leastSlantModulus_21 ?_
    exact pub (gd_f c_2) rfl rfl ((hP).up (by decide))
  · refine V_iconst dX11_leastSlantModulus_9 ?_
    refine V_goto (tgt := 14) dX11_leastSlantModulus_10 (by decide) ?_
    refine V_callVF (As := [.int (zI 0)]) (b := a 0) (hb := (show (mW a σ)[0]? = some (a 0, .inr (10, mF a σ)) from rfl)) (hc := (show vwCl[10]? = some (RX11, TX11, 30) from rfl)) hK (c_fails hE a σ 0 ⟨by omega, by omega⟩) mokX11_fails w1172 w1174 wps1_9 ⟨Nat.le_of_ble_eq_true rfl, Nat.le_of_ble_eq_true rfl⟩ rfl (Nat.le_of_ble_eq_true rfl) ⟨Nat.le_refl _, Nat.le_refl _⟩ dX11_leastSlantModulus_14 (fun v w p_5 => ?_)
    obtain ⟨rfl, rfl⟩ := p_5
    show V K sX11_leastSlantModulus 0 0 (mW a (up σ 1 29 0)) _ [.int (zI (bz (decide (0 < 0))))] 17
    refine V_ifd_eq (tgt := 22) dX11_leastSlantModulus_17 (by decide) (fun _ => ?_) (fun h => absurd h (by decide))
    refine V_aload_n dX11_leastSlantModulus_22 rfl ?_
    refine V_iload_n dX11_leastSlantModulus_23 rfl ?_
    refine V_callVF (As := [.int (zI s0)]) (b := a 0) (hb := (show (mW a (up σ 1 29 0))[0]? = some (a 0, .inr (10, mF a (up σ 1 29 0))) from rfl)) (hc := (show vwCl[10]? = some (RX11, TX11, 30) from rfl)) hK (c_seeks hE a (up σ 1 29 0) s0 P ⟨hM, ((hP).up (by decide)), c_2.1, c_2.2⟩) mokX11_seeks w1422 w1424 wps3_9 ⟨Nat.le_of_ble_eq_true rfl, Nat.le_of_ble_eq_true rfl⟩ rfl (Nat.le_of_ble_eq_true rfl) ⟨Nat.le_refl _, Nat.le_refl _⟩ dX11_leastSlantModulus_24 (fun v w p_7 => ?_)
    obtain ⟨σ_8, rfl, rfl, q_9, q_10⟩ := p_7
    show V K sX11_leastSlantModulus 0 0 (mW a σ_8) _ [] 27
    refine V_aload_n dX11_leastSlantModulus_27 rfl ?_
    refine V_callVF (As := []) (b := a 0) (hb := (show (mW a σ_8)[0]? = some (a 0, .inr (10, mF a σ_8)) from rfl)) (hc := (show vwCl[10]? = some (RX11, TX11, 30) from rfl)) hK (c_slant hE a σ_8 P (P 0 11) (P 0 12) s0 ⟨hM, ((((hP).up (by decide))).fr q_9 (by decide)), q_10⟩) mokX11_slant w1386 w1388 wps3_5 ⟨Nat.le_of_ble_eq_true rfl, Nat.le_of_ble_eq_true rfl⟩ rfl (Nat.le_of_ble_eq_true rfl) ⟨Nat.le_refl _, Nat.le_refl _⟩ dX11_leastSlantModulus_28 (fun v w p_11 => ?_)
    obtain ⟨rfl, rfl⟩ := p_11
    show V K sX11_leastSlantModulus 0 0 (mW a σ_8) _ [.int (zI (ls P (P 0 11) (P 0 12) s0))] 31
    have sb := ls_spec hM (P 0 11) (P 0 12) s0
    have sb1 := sb.1.1
    have sb2 := sb.2
    refine V_bipush dX11_leastSlantModulus_31 (by decide) ?_
    refine V_idiv dX11_leastSlantModulus_33 ⟨⟨by omega, by omega⟩, ⟨by omega, by omega⟩, by omega, by omega⟩ ?_
    refine V_iret hR rfl (Nat.le_refl _) (Nat.le_refl _) dX11_leastSlantModulus_34 ?_
    exact pub (gd_t c_2) rfl ((congrFun (q_9 1 (by decide)) 29).trans (rfl)) ((((hP).up (by decide))).fr q_9 (by decide))
set_option maxRecDepth 100000 in
set_option maxHeartbeats 4000000 in
theorem c_leastSlant {E : EV} (hE : Stb E) (a : Nat → Nat) (σ : St) (s0 : Int) (P : St) (hp : MI P ∧ PR P σ ∧ iR s0) : MC E yX11_leastSlant sX11_leastSlant [.ref (a 0), .int (zI s0)] (mW a σ) (fun v w => ∃ σ2 : St, v = some (.int (zI ((sp_leastSlant P s0).2.1))) ∧ w = mW a σ2 ∧ (σ2 1 29 = (sp_leastSlant P s0).1) ∧ (PR (sp_leastSlant P s0).2.2 σ2)) := by
  refine MC.of hE [some (.ref (a 0)), some (.int (zI s0))] 0 rfl rfl rfl (by simp [Value.category]) (Nat.le_of_ble_eq_true rfl) (fun K hK hR => ?_)
  obtain ⟨hM, hP, hp⟩ := hp
  have e0 := hP 0 (by decide) (by decide)
  have f0 : ∀ i, σ 0 i = P 0 i := fun i => by rw [e0]
  have mR := hM.1
  have mC := hM.2.1
  have mN := hM.2.2.1
  have mp := hM.pts
  have ma := hM.als
  have gR := f0 0
  have gC := f0 1
  have gN := f0 2
  have hr := hp
  obtain ⟨r0a, r0b⟩ : iR s0 := hp
  refine V_aload_n dX11_leastSlant_0 rfl ?_
  refine V_aload_n dX11_leastSlant_1 rfl ?_
  refine V_iload_n dX11_leastSlant_2 rfl ?_
  refine V_callVF (As := [.int (zI s0)]) (b := a 0) (hb := (show (mW a σ)[0]? = some (a 0, .inr (10, mF a σ)) from rfl)) (hc := (show vwCl[10]? = some (RX11, TX11, 30) from rfl)) hK (c_is hE a σ s0 P ⟨hM, hP, by (try refine ⟨?_, ?_⟩) <;> omega⟩) mokX11_is w1180 w1182 wps1_10 ⟨Nat.le_of_ble_eq_true rfl, Nat.le_of_ble_eq_true rfl⟩ rfl (Nat.le_of_ble_eq_true rfl) ⟨Nat.le_refl _, Nat.le_refl _⟩ dX11_leastSlant_3 (fun v w p_1 => ?_)
  obtain ⟨rfl, rfl⟩ := p_1
  show V K sX11_leastSlant 0 0 (mW a σ) _ [.int (zI (bz (decide (0 ≤ s0 ∧ s0 < P 0 2)))), .ref (a 0)] 6
  refine V_ifd_eq (tgt := 13) dX11_leastSlant_6 (by decide) (fun c_2 => ?_) (fun c_2 => ?_)
  · refine V_iconst dX11_leastSlant_13 ?_
    refine V_callVF (As := [.int (zI 1)]) (b := a 0) (hb := (show (mW a σ)[0]? = some (a 0, .inr (10, mF a σ)) from rfl)) (hc := (show vwCl[10]? = some (RX11, TX11, 30) from rfl)) hK (c_fails hE a σ 1 ⟨by omega, by omega⟩) mokX11_fails w1172 w1174 wps1_9 ⟨Nat.le_of_ble_eq_true rfl, Nat.le_of_ble_eq_true rfl⟩ rfl (Nat.le_of_ble_eq_true rfl) ⟨Nat.le_refl _, Nat.le_refl _⟩ dX11_leastSlant_14 (fun v w p_3 => ?_)
    obtain ⟨rfl, rfl⟩ := p_3
    show V K sX11_leastSlant 0 0 (mW a (up σ 1 29 1)) _ [.int (zI (bz (decide (0 < 1))))] 17
    refine V_ifd_eq (tgt := 22) dX11_leastSlant_17 (by decide) (fun h => absurd (by decide) h) (fun _ => ?_)
    refine V_iconst dX11_leastSlant_20 ?_
    refine V_iret hR rfl (Nat.le_refl _) (Nat.le_refl _) dX11_leastSlant_21 ?_
    exact pub (gd_f c_2) rfl rfl ((hP).up (by decide))
  · refine V_iconst dX11_leastSlant_9 ?_
    refine V_goto (tgt := 14) dX11_leastSlant_10 (by decide) ?_
    refine V_callVF (As := [.int (zI 0)]) (b := a 0) (hb := (show (mW a σ)[0]? = some (a 0, .inr (10, mF a σ)) from rfl)) (hc := (show vwCl[10]? = some (RX11, TX11, 30) from rfl)) hK (c_fails hE a σ 0 ⟨by omega, by omega⟩) mokX11_fails w1172 w1174 wps1_9 ⟨Nat.le_of_ble_eq_true rfl, Nat.le_of_ble_eq_true rfl⟩ rfl (Nat.le_of_ble_eq_true rfl) ⟨Nat.le_refl _, Nat.le_refl _⟩ dX11_leastSlant_14 (fun v w p_5 => ?_)
    obtain ⟨rfl, rfl⟩ := p_5
    show V K sX11_leastSlant 0 0 (mW a (up σ 1 29 0)) _ [.int (zI (bz (decide (0 < 0))))] 17
    refine V_ifd_eq (tgt := 22) dX11_leastSlant_17 (by decide) (fun _ => ?_) (fun h => absurd h (by decide))
    refine V_aload_n dX11_leastSlant_22 rfl ?_
    refine V_iload_n dX11_leastSlant_23 rfl ?_
    refine V_callVF (As := [.int (zI s0)]) (b := a 0) (hb := (show (mW a (up σ 1 29 0))[0]? = some (a 0, .inr (10, mF a (up σ 1 29 0))) from rfl)) (hc := (show vwCl[10]? = some (RX11, TX11, 30) from rfl)) hK (c_seeks hE a (up σ 1 29 0) s0 P ⟨hM, ((hP).up (by decide)), c_2.1, c_2.2⟩) mokX11_seeks w1422 w1424 wps3_9 ⟨Nat.le_of_ble_eq_true rfl, Nat.le_of_ble_eq_true rfl⟩ rfl (Nat.le_of_ble_eq_true rfl) ⟨Nat.le_refl _, Nat.le_refl _⟩ dX11_leastSlant_24 (fun v w p_7 => ?_)
    obtain ⟨σ_8, rfl, rfl, q_9, q_10⟩ := p_7
    show V K sX11_leastSlant 0 0 (mW a σ_8) _ [] 27
    refine V_aload_n dX11_leastSlant_27 rfl ?_
    refine V_callVF (As := []) (b := a 0) (hb := (show (mW a σ_8)[0]? = some (a 0, .inr (10, mF a σ_8)) from rfl)) (hc := (show vwCl[10]? = some (RX11, TX11, 30) from rfl)) hK (c_slant hE a σ_8 P (P 0 11) (P 0 12) s0 ⟨hM, ((((hP).up (by decide))).fr q_9 (by decide)), q_10⟩) mokX11_slant w1386 w1388 wps3_5 ⟨Nat.le_of_ble_eq_true rfl, Nat.le_of_ble_eq_true rfl⟩ rfl (Nat.le_of_ble_eq_true rfl) ⟨Nat.le_refl _, Nat.le_refl _⟩ dX11_leastSlant_28 (fun v w p_11 => ?_)
    obtain ⟨rfl, rfl⟩ := p_11
    show V K sX11_leastSlant 0 0 (mW a σ_8) _ [.int (zI (ls P (P 0 11) (P 0 12) s0))] 31
    have sb := ls_spec hM (P 0 11) (P 0 12) s0
    have sb1 := sb.1.1
    have sb2 := sb.2
    refine V_bipush dX11_leastSlant_31 (by decide) ?_
    refine V_iremN dX11_leastSlant_33 ⟨⟨by omega, by omega⟩, ⟨by omega, by omega⟩, by omega, by omega⟩ ?_
    refine V_iret hR rfl (Nat.le_refl _) (Nat.le_refl _) dX11_leastSlant_34 ?_
    exact pub (gd_t c_2) rfl ((congrFun (q_9 1 (by decide)) 29).trans (rfl)) ((((hP).up (by decide))).fr q_9 (by decide))
set_option maxRecDepth 100000 in
set_option maxHeartbeats 4000000 in
theorem c_leastRestByDifferences {E : EV} (hE : Stb E) (a : Nat → Nat) (σ : St) (s0 : Int) (P : St) (hp : MI P ∧ PR P σ ∧ iR s0) : MC E yX11_leastRestByDifferences sX11_leastRestByDifferences [.ref (a 0), .int (zI s0)] (mW a σ) (fun v w => ∃ σ2 : St, v = some (.int (zI ((sp_leastRest P s0).2.1))) ∧ w = mW a σ2 ∧ (σ2 1 29 = (sp_leastRest P s0).1) ∧ (PR (sp_leastRest P s0).2.2 σ2)) := by
  refine MC.of hE [some (.ref (a 0)), some (.int (zI s0))] 0 rfl rfl rfl (by simp [Value.category]) (Nat.le_of_ble_eq_true rfl) (fun K hK hR => ?_)
  obtain ⟨hM, hP, hp⟩ := hp
  have e0 := hP 0 (by decide) (by decide)
  have f0 : ∀ i, σ 0 i = P 0 i := fun i => by rw [e0]
  have mR := hM.1
  have mC := hM.2.1
  have mN := hM.2.2.1
  have mp := hM.pts
  have ma := hM.als
  have gR := f0 0
  have gC := f0 1
  have gN := f0 2
  have hr := hp
  obtain ⟨r0a, r0b⟩ : iR s0 := hp
  refine V_aload_n dX11_leastRestByDifferences_0 rfl ?_
  refine V_iload_n dX11_leastRestByDifferences_1 rfl ?_
  refine V_callVF (As := [.int (zI s0)]) (b := a 0) (hb := (show (mW a σ)[0]? = some (a 0, .inr (10, mF a σ)) from rfl)) (hc := (show vwCl[10]? = some (RX11, TX11, 30) from rfl)) hK (c_leastRest hE a σ s0 P ⟨hM, hP, by (try refine ⟨?_, ?_⟩) <;> omega⟩) mokX11_leastRest w1430 w1419 w1420 ⟨Nat.le_of_ble_eq_true rfl, Nat.le_of_ble_eq_true rfl⟩ rfl (Nat.le_of_ble_eq_true rfl) ⟨Nat.le_refl _, Nat.le_refl _⟩ dX11_leastRestByDifferences_2 (fun v w p_1 => ?_)
  obtain ⟨σ_2, rfl, rfl, q_3, q_4⟩ := p_1
  show V K sX11_leastRestByDifferences 0 0 (mW a σ_2) _ [.int (zI ((sp_leastRest P s0).2.1))] 5
  refine V_iret hR rfl (Nat.le_refl _) (Nat.le_refl _) dX11_leastRestByDifferences_5 ?_
  exact ⟨_, rfl, rfl, q_3, q_4⟩
set_option maxRecDepth 100000 in
set_option maxHeartbeats 4000000 in
theorem c_valueOf {E : EV} (hE : Stb E) (a : Nat → Nat) (σ : St) (s0 : Int) (i : Int) (j : Int) (P : St) (hp : MI P ∧ PR P σ ∧ iR s0 ∧ iR i ∧ iR j) : MC E yX11_valueOf sX11_valueOf [.ref (a 0), .int (zI s0), .int (zI i), .int (zI j)] (mW a σ) (fun v w => ∃ σ2 : St, v = some (.int (zI ((sp_valueOf P s0 i j).2.1))) ∧ w = mW a σ2 ∧ (σ2 1 29 = (sp_valueOf P s0 i j).1) ∧ (PR (sp_valueOf P s0 i j).2.2 σ2)) := by
  refine MC.of hE [some (.ref (a 0)), some (.int (zI s0)), some (.int (zI i)), some (.int (zI j))] 0 rfl rfl rfl (by simp [Value.category]) (Nat.le_of_ble_eq_true rfl) (fun K hK hR => ?_)
  obtain ⟨hM, hP, hp⟩ := hp
  have e0 := hP 0 (by decide) (by decide)
  have f0 : ∀ i, σ 0 i = P 0 i := fun i => by rw [e0]
  have mR := hM.1
  have mC := hM.2.1
  have mN := hM.2.2.1
  have mp := hM.pts
  have ma := hM.als
  have gR := f0 0
  have gC := f0 1
  have gN := f0 2
  have hr := hp
  obtain ⟨r0a, r0b⟩ : iR s0 := hp.1
  obtain ⟨r1a, r1b⟩ : iR i := hp.2.1
  obtain ⟨r2a, r2b⟩ : iR j := hp.2.2
  refine V_aload_n dX11_valueOf_0 rfl ?_
  refine V_aload_n dX11_valueOf_1 rfl ?_
  refine V_iload_n dX11_valueOf_2 rfl ?_
  refine V_iload_n dX11_valueOf_3 rfl ?_
  refine V_iload_n dX11_valueOf_4 rfl ?_
  refine V_callVF (As := [.int (zI s0), .int (zI i), .int (zI j)]) (b := a 0) (hb := (show (mW a σ)[0]? = some (a 0, .inr (10, mF a σ)) from rfl)) (hc := (show vwCl[10]? = some (RX11, TX11, 30) from rfl)) hK (c_isCell hE a σ s0 i j P ⟨hM, hP, by refine ⟨?_, ?_, ?_⟩ <;> (try refine ⟨?_, ?_⟩) <;> omega⟩) mokX11_isCell w1275 w1277 wps2_7 ⟨Nat.le_of_ble_eq_true rfl, Nat.le_of_ble_eq_true rfl⟩ rfl (Nat.le_of_ble_eq_true rfl) ⟨Nat.le_refl _, Nat.le_refl _⟩ dX11_valueOf_5 (fun v w p_1 => ?_)
  obtain ⟨rfl, rfl⟩ := p_1
  show V K sX11_valueOf 0 0 (mW a σ) _ [.int (zI (bz (decide ((0 ≤ s0 ∧ s0 < P 0 2) ∧ 0 ≤ i ∧ i < P 0 0 ∧ 0 ≤ j ∧ j < P 0 1)))), .ref (a 0)] 8
  refine V_ifd_eq (tgt := 15) dX11_valueOf_8 (by decide) (fun c_2 => ?_) (fun c_2 => ?_)
  · refine V_iconst dX11_valueOf_15 ?_
    refine V_callVF (As := [.int (zI 1)]) (b := a 0) (hb := (show (mW a σ)[0]? = some (a 0, .inr (10, mF a σ)) from rfl)) (hc := (show vwCl[10]? = some (RX11, TX11, 30) from rfl)) hK (c_fails hE a σ 1 ⟨by omega, by omega⟩) mokX11_fails w1172 w1174 wps1_9 ⟨Nat.le_of_ble_eq_true rfl, Nat.le_of_ble_eq_true rfl⟩ rfl (Nat.le_of_ble_eq_true rfl) ⟨Nat.le_refl _, Nat.le_refl _⟩ dX11_valueOf_16 (fun v w p_3 => ?_)
    obtain ⟨rfl, rfl⟩ := p_3
    show V K sX11_valueOf 0 0 (mW a (up σ 1 29 1)) _ [.int (zI (bz (decide (0 < 1))))] 19
    refine V_ifd_eq (tgt := 24) dX11_valueOf_19 (by decide) (fun h => absurd (by decide) h) (fun _ => ?_)
    refine V_iconst dX11_valueOf_22 ?_
    refine V_iret hR rfl (Nat.le_refl _) (Nat.le_refl _) dX11_valueOf_23 ?_
    exact pub (gd_f c_2) rfl rfl ((hP).up (by decide))
  · refine V_iconst dX11_valueOf_11 ?_
    refine V_goto (tgt := 16) dX11_valueOf_12 (by decide) ?_
    refine V_callVF (As := [.int (zI 0)]) (b := a 0) (hb := (show (mW a σ)[0]? = some (a 0, .inr (10, mF a σ)) from rfl)) (hc := (show vwCl[10]? = some (RX11, TX11, 30) from rfl)) hK (c_fails hE a σ 0 ⟨by omega, by omega⟩) mokX11_fails w1172 w1174 wps1_9 ⟨Nat.le_of_ble_eq_true rfl, Nat.le_of_ble_eq_true rfl⟩ rfl (Nat.le_of_ble_eq_true rfl) ⟨Nat.le_refl _, Nat.le_refl _⟩ dX11_valueOf_16 (fun v w p_5 => ?_)
    obtain ⟨rfl, rfl⟩ := p_5
    show V K sX11_valueOf 0 0 (mW a (up σ 1 29 0)) _ [.int (zI (bz (decide (0 < 0))))] 19
    refine V_ifd_eq (tgt := 24) dX11_valueOf_19 (by decide) (fun _ => ?_) (fun h => absurd h (by decide))
    have hcb := cc_b hM c_2
    have kb := cid_b hM hcb.1.1 hcb.1.2
    rw [hcb.2.1] at kb
    refine V_aload_n dX11_valueOf_24 rfl ?_
    refine V_callVF (As := []) (b := a 0) (hb := (show (mW a (up σ 1 29 0))[0]? = some (a 0, .inr (10, mF a (up σ 1 29 0))) from rfl)) (hc := (show vwCl[10]? = some (RX11, TX11, 30) from rfl)) hK (c_works hE a (up σ 1 29 0) P ⟨hM, ((hP).up (by decide))⟩) mokX11_works w1463 w1465 wps3_12 ⟨Nat.le_of_ble_eq_true rfl, Nat.le_of_ble_eq_true rfl⟩ rfl (Nat.le_of_ble_eq_true rfl) ⟨Nat.le_refl _, Nat.le_refl _⟩ dX11_valueOf_25 (fun v w p_7 => ?_)
    obtain ⟨σ_8, rfl, rfl, q_9, q_10, q_11⟩ := p_7
    show V K sX11_valueOf 0 0 (mW a σ_8) _ [.int (zI (fws P (P 0 11) (P 0 12)))] 28
    refine V_pop dX11_valueOf_28 rfl ?_
    refine V_aload_n dX11_valueOf_29 rfl ?_
    refine mg_value rfl dX11_valueOf_30 ?_
    refine V_aload_n dX11_valueOf_33 rfl ?_
    refine V_iload_n dX11_valueOf_34 rfl ?_
    refine V_iload_n dX11_valueOf_35 rfl ?_
    refine V_iload_n dX11_valueOf_36 rfl ?_
    refine V_callVF (As := [.int (zI s0), .int (zI i), .int (zI j)]) (b := a 0) (hb := (show (mW a σ_8)[0]? = some (a 0, .inr (10, mF a σ_8)) from rfl)) (hc := (show vwCl[10]? = some (RX11, TX11, 30) from rfl)) hK (c_cell hE a σ_8 s0 i j P ⟨hM, ((((hP).up (by decide))).fr q_9 (by decide))⟩) mokX11_cell w1243 w1245 wps2_5 ⟨Nat.le_of_ble_eq_true rfl, Nat.le_of_ble_eq_true rfl⟩ rfl (Nat.le_of_ble_eq_true rfl) ⟨Nat.le_refl _, Nat.le_refl _⟩ dX11_valueOf_37 (fun v w p_12 => ?_)
    obtain ⟨rfl, rfl⟩ := p_12
    show V K sX11_valueOf 0 0 (mW a σ_8) _ [.int (zI (64 * s0 + i * P 0 1 + j)), .ref (a 20)] 40
    refine ml_value ⟨by omega, by omega⟩ dX11_valueOf_40 ?_
    refine V_iret hR rfl (Nat.le_refl _) (Nat.le_refl _) dX11_valueOf_41 ?_
    exact pub (gd_t c_2) (ziE (by rw [← hcb.2.1]; exact q_10 _ hcb.1.1 hcb.1.2)) ((congrFun (q_9 1 (by decide)) 29).trans (rfl)) ((((hP).up (by decide))).fr q_9 (by decide))
set_option maxRecDepth 100000 in
set_option maxHeartbeats 4000000 in
theorem c_contractedValueOf {E : EV} (hE : Stb E) (a : Nat → Nat) (σ : St) (s0 : Int) (i : Int) (j : Int) (P : St) (hp : MI P ∧ PR P σ ∧ iR s0 ∧ iR i ∧ iR j) : MC E yX11_contractedValueOf sX11_contractedValueOf [.ref (a 0), .int (zI s0), .int (zI i), .int (zI j)] (mW a σ) (fun v w => ∃ σ2 : St, v = some (.int (zI ((sp_contractedValueOf P s0 i j).2.1))) ∧ w = mW a σ2 ∧ (σ2 1 29 = (sp_contractedValueOf P s0 i j).1) ∧ (PR (sp_contractedValueOf P s0 i j).2.2 σ2)) := by
  refine MC.of hE [some (.ref (a 0)), some (.int (zI s0)), some (.int (zI i)), some (.int (zI j))] 0 rfl rfl rfl (by simp [Value.category]) (Nat.le_of_ble_eq_true rfl) (fun K hK hR => ?_)
  obtain ⟨hM, hP, hp⟩ := hp
  have e0 := hP 0 (by decide) (by decide)
  have f0 : ∀ i, σ 0 i = P 0 i := fun i => by rw [e0]
  have mR := hM.1
  have mC := hM.2.1
  have mN := hM.2.2.1
  have mp := hM.pts
  have ma := hM.als
  have gR := f0 0
  have gC := f0 1
  have gN := f0 2
  have hr := hp
  obtain ⟨r0a, r0b⟩ : iR s0 := hp.1
  obtain ⟨r1a, r1b⟩ : iR i := hp.2.1
  obtain ⟨r2a, r2b⟩ : iR j := hp.2.2
  refine V_aload_n dX11_contractedValueOf_0 rfl ?_
  refine V_aload_n dX11_contractedValueOf_1 rfl ?_
  refine V_iload_n dX11_contractedValueOf_2 rfl ?_
  refine V_iload_n dX11_contractedValueOf_3 rfl ?_
  refine V_iload_n dX11_contractedValueOf_4 rfl ?_
  refine V_callVF (As := [.int (zI s0), .int (zI i), .int (zI j)]) (b := a 0) (hb := (show (mW a σ)[0]? = some (a 0, .inr (10, mF a σ)) from rfl)) (hc := (show vwCl[10]? = some (RX11, TX11, 30) from rfl)) hK (c_isCell hE a σ s0 i j P ⟨hM, hP, by refine ⟨?_, ?_, ?_⟩ <;> (try refine ⟨?_, ?_⟩) <;> omega⟩) mokX11_isCell w1275 w1277 wps2_7 ⟨Nat.le_of_ble_eq_true rfl, Nat.le_of_ble_eq_true rfl⟩ rfl (Nat.le_of_ble_eq_true rfl) ⟨Nat.le_refl _, Nat.le_refl _⟩ dX11_contractedValueOf_5 (fun v w p_1 => ?_)
  obtain ⟨rfl, rfl⟩ := p_1
  show V K sX11_contractedValueOf 0 0 (mW a σ) _ [.int (zI (bz (decide ((0 ≤ s0 ∧ s0 < P 0 2) ∧ 0 ≤ i ∧ i < P 0 0 ∧ 0 ≤ j ∧ j < P 0 1)))), .ref (a 0)] 8
  refine V_ifd_eq (tgt := 15) dX11_contractedValueOf_8 (by decide) (fun c_2 => ?_) (fun c_2 => ?_)
  · refine V_iconst dX11_contractedValueOf_15 ?_
    refine V_callVF (As := [.int (zI 1)]) (b := a 0) (hb := (show (mW a σ)[0]? = some (a 0, .inr (10, mF a σ)) from rfl)) (hc := (show vwCl[10]? = some (RX11, TX11, 30) from rfl)) hK (c_fails hE a σ 1 ⟨by omega, by omega⟩) mokX11_fails w1172 w1174 wps1_9 ⟨Nat.le_of_ble_eq_true rfl, Nat.le_of_ble_eq_true rfl⟩ rfl (Nat.le_of_ble_eq_true rfl) ⟨Nat.le_refl _, Nat.le_refl _⟩ dX11_contractedValueOf_16 (fun v w p_3 => ?_)
    obtain ⟨rfl, rfl⟩ := p_3
    show V K sX11_contractedValueOf 0 0 (mW a (up σ 1 29 1)) _ [.int (zI (bz (decide (0 < 1))))] 19
    refine V_ifd_eq (tgt := 24) dX11_contractedValueOf_19 (by decide) (fun h => absurd (by decide) h) (fun _ => ?_)
    refine V_iconst dX11_contractedValueOf_22 ?_
    refine V_iret hR rfl (Nat.le_refl _) (Nat.le_refl _) dX11_contractedValueOf_23 ?_
    exact pub (gd_f c_2) rfl rfl ((hP).up (by decide))
  · refine V_iconst dX11_contractedValueOf_11 ?_
    refine V_goto (tgt := 16) dX11_contractedValueOf_12 (by decide) ?_
    refine V_callVF (As := [.int (zI 0)]) (b := a 0) (hb := (show (mW a σ)[0]? = some (a 0, .inr (10, mF a σ)) from rfl)) (hc := (show vwCl[10]? = some (RX11, TX11, 30) from rfl)) hK (c_fails hE a σ 0 ⟨by omega, by omega⟩) mokX11_fails w1172 w1174 wps1_9 ⟨Nat.le_of_ble_eq_true rfl, Nat.le_of_ble_eq_true rfl⟩ rfl (Nat.le_of_ble_eq_true rfl) ⟨Nat.le_refl _, Nat.le_refl _⟩ dX11_contractedValueOf_16 (fun v w p_5 => ?_)
    obtain ⟨rfl, rfl⟩ := p_5
    show V K sX11_contractedValueOf 0 0 (mW a (up σ 1 29 0)) _ [.int (zI (bz (decide (0 < 0))))] 19
    refine V_ifd_eq (tgt := 24) dX11_contractedValueOf_19 (by decide) (fun _ => ?_) (fun h => absurd h (by decide))
    have hcb := cc_b hM c_2
    have kb := cid_b hM hcb.1.1 hcb.1.2
    rw [hcb.2.1] at kb
    refine V_aload_n dX11_contractedValueOf_24 rfl ?_
    refine V_callVF (As := []) (b := a 0) (hb := (show (mW a (up σ 1 29 0))[0]? = some (a 0, .inr (10, mF a (up σ 1 29 0))) from rfl)) (hc := (show vwCl[10]? = some (RX11, TX11, 30) from rfl)) hK (c_works hE a (up σ 1 29 0) P ⟨hM, ((hP).up (by decide))⟩) mokX11_works w1463 w1465 wps3_12 ⟨Nat.le_of_ble_eq_true rfl, Nat.le_of_ble_eq_true rfl⟩ rfl (Nat.le_of_ble_eq_true rfl) ⟨Nat.le_refl _, Nat.le_refl _⟩ dX11_contractedValueOf_25 (fun v w p_7 => ?_)
    obtain ⟨σ_8, rfl, rfl, q_9, q_10, q_11⟩ := p_7
    show V K sX11_contractedValueOf 0 0 (mW a σ_8) _ [.int (zI (fws P (P 0 11) (P 0 12)))] 28
    refine V_pop dX11_contractedValueOf_28 rfl ?_
    refine V_aload_n dX11_contractedValueOf_29 rfl ?_
    refine mg_written rfl dX11_contractedValueOf_30 ?_
    refine V_aload_n dX11_contractedValueOf_33 rfl ?_
    refine V_iload_n dX11_contractedValueOf_34 rfl ?_
    refine V_iload_n dX11_contractedValueOf_35 rfl ?_
    refine V_iload_n dX11_contractedValueOf_36 rfl ?_
    refine V_callVF (As := [.int (zI s0), .int (zI i), .int (zI j)]) (b := a 0) (hb := (show (mW a σ_8)[0]? = some (a 0, .inr (10, mF a σ_8)) from rfl)) (hc := (show vwCl[10]? = some (RX11, TX11, 30) from rfl)) hK (c_cell hE a σ_8 s0 i j P ⟨hM, ((((hP).up (by decide))).fr q_9 (by decide))⟩) mokX11_cell w1243 w1245 wps2_5 ⟨Nat.le_of_ble_eq_true rfl, Nat.le_of_ble_eq_true rfl⟩ rfl (Nat.le_of_ble_eq_true rfl) ⟨Nat.le_refl _, Nat.le_refl _⟩ dX11_contractedValueOf_37 (fun v w p_12 => ?_)
    obtain ⟨rfl, rfl⟩ := p_12
    show V K sX11_contractedValueOf 0 0 (mW a σ_8) _ [.int (zI (64 * s0 + i * P 0 1 + j)), .ref (a 22)] 40
    refine ml_written ⟨by omega, by omega⟩ dX11_contractedValueOf_40 ?_
    refine V_iret hR rfl (Nat.le_refl _) (Nat.le_refl _) dX11_contractedValueOf_41 ?_
    exact pub (gd_t c_2) (ziE (by rw [← hcb.2.1]; exact q_11 _ hcb.1.1 hcb.1.2)) ((congrFun (q_9 1 (by decide)) 29).trans (rfl)) ((((hP).up (by decide))).fr q_9 (by decide))
set_option maxRecDepth 100000 in
set_option maxHeartbeats 4000000 in
theorem c_firstWrongStep {E : EV} (hE : Stb E) (a : Nat → Nat) (σ : St) (P : St) (hp : MI P ∧ PR P σ) : MC E yX11_firstWrongStep sX11_firstWrongStep [.ref (a 0)] (mW a σ) (fun v w => ∃ σ2 : St, v = some (.int (zI ((sp_firstWrongStep P).2.1))) ∧ w = mW a σ2 ∧ (σ2 1 29 = (sp_firstWrongStep P).1) ∧ (PR (sp_firstWrongStep P).2.2 σ2)) := by
  refine MC.of hE [some (.ref (a 0))] 0 rfl rfl rfl (by simp [Value.category]) (Nat.le_of_ble_eq_true rfl) (fun K hK hR => ?_)
  obtain ⟨hM, hP⟩ := hp
  have e0 := hP 0 (by decide) (by decide)
  have f0 : ∀ i, σ 0 i = P 0 i := fun i => by rw [e0]
  have mR := hM.1
  have mC := hM.2.1
  have mN := hM.2.2.1
  have mp := hM.pts
  have ma := hM.als
  have gR := f0 0
  have gC := f0 1
  have gN := f0 2
  refine V_aload_n dX11_firstWrongStep_0 rfl ?_
  refine V_iconst dX11_firstWrongStep_1 ?_
  refine mp_thrown rfl dX11_firstWrongStep_2 ?_
  refine V_aload_n dX11_firstWrongStep_5 rfl ?_
  refine V_callVF (As := []) (b := a 0) (hb := (show (mW a (up σ 1 29 0))[0]? = some (a 0, .inr (10, mF a (up σ 1 29 0))) from rfl)) (hc := (show vwCl[10]? = some (RX11, TX11, 30) from rfl)) hK (c_works hE a (up σ 1 29 0) P ⟨hM, ((hP).up (by decide))⟩) mokX11_works w1463 w1465 wps3_12 ⟨Nat.le_of_ble_eq_true rfl, Nat.le_of_ble_eq_true rfl⟩ rfl (Nat.le_of_ble_eq_true rfl) ⟨Nat.le_refl _, Nat.le_refl _⟩ dX11_firstWrongStep_6 (fun v w p_1 => ?_)
  obtain ⟨σ_2, rfl, rfl, q_3, q_4, q_5⟩ := p_1
  show V K sX11_firstWrongStep 0 0 (mW a σ_2) _ [.int (zI (fws P (P 0 11) (P 0 12)))] 9
  refine V_iret hR rfl (Nat.le_refl _) (Nat.le_refl _) dX11_firstWrongStep_9 ?_
  exact pub rfl rfl ((congrFun (q_3 1 (by decide)) 29).trans (rfl)) ((((hP).up (by decide))).fr q_3 (by decide))
set_option maxRecDepth 100000 in
set_option maxHeartbeats 4000000 in
theorem c_bestRowWeight {E : EV} (hE : Stb E) (a : Nat → Nat) (σ : St) (P : St) (hp : MI P ∧ PR P σ) : MC E yX11_bestRowWeight sX11_bestRowWeight [.ref (a 0)] (mW a σ) (fun v w => ∃ σ2 : St, v = some (.int (zI ((sp_bestRowWeight P).2.1))) ∧ w = mW a σ2 ∧ (σ2 1 29 = (sp_bestRowWeight P).1) ∧ (PR (sp_bestRowWeight P).2.2 σ2)) := by
  refine MC.of hE [some (.ref (a 0))] 0 rfl rfl rfl (by simp [Value.category]) (Nat.le_of_ble_eq_true rfl) (fun K hK hR => ?_)
  obtain ⟨hM, hP⟩ := hp
  have e0 := hP 0 (by decide) (by decide)
  have f0 : ∀ i, σ 0 i = P 0 i := fun i => by rw [e0]
  have mR := hM.1
  have mC := hM.2.1
  have mN := hM.2.2.1
  have mp := hM.pts
  have ma := hM.als
  have gR := f0 0
  have gC := f0 1
  have gN := f0 2
  refine V_aload_n dX11_bestRowWeight_0 rfl ?_
  refine V_aload_n dX11_bestRowWeight_1 rfl ?_
  refine V_callVF (As := []) (b := a 0) (hb := (show (mW a σ)[0]? = some (a 0, .inr (10, mF a σ)) from rfl)) (hc := (show vwCl[10]? = some (RX11, TX11, 30) from rfl)) hK (c_hasBest hE a σ P ⟨hM, hP⟩) mokX11_hasBest w1482 w1484 wps3_13 ⟨Nat.le_of_ble_eq_true rfl, Nat.le_of_ble_eq_true rfl⟩ rfl (Nat.le_of_ble_eq_true rfl) ⟨Nat.le_refl _, Nat.le_refl _⟩ dX11_bestRowWeight_2 (fun v w p_1 => ?_)
  obtain ⟨σ_2, rfl, rfl, q_3, q_4, q_5, q_6⟩ := p_1
  show V K sX11_bestRowWeight 0 0 (mW a σ_2) _ [.int (zI (bz (decide (0 ≤ σ_2 1 26)))), .ref (a 0)] 5
  have hb2 := q_6
  refine V_ifd_eq (tgt := 12) dX11_bestRowWeight_5 (by decide) (fun c_7 => ?_) (fun c_7 => ?_)
  · refine V_iconst dX11_bestRowWeight_12 ?_
    refine V_callVF (As := [.int (zI 1)]) (b := a 0) (hb := (show (mW a σ_2)[0]? = some (a 0, .inr (10, mF a σ_2)) from rfl)) (hc := (show vwCl[10]? = some (RX11, TX11, 30) from rfl)) hK (c_fails hE a σ_2 1 ⟨by omega, by omega⟩) mokX11_fails w1172 w1174 wps1_9 ⟨Nat.le_of_ble_eq_true rfl, Nat.le_of_ble_eq_true rfl⟩ rfl (Nat.le_of_ble_eq_true rfl) ⟨Nat.le_refl _, Nat.le_refl _⟩ dX11_bestRowWeight_13 (fun v w p_8 => ?_)
    obtain ⟨rfl, rfl⟩ := p_8
    show V K sX11_bestRowWeight 0 0 (mW a (up σ_2 1 29 1)) _ [.int (zI (bz (decide (0 < 1))))] 16
    refine V_ifd_eq (tgt := 23) dX11_bestRowWeight_16 (by decide) (fun h => absurd (by decide) h) (fun _ => ?_)
    refine V_iconst dX11_bestRowWeight_19 ?_
    refine V_goto (tgt := 27) dX11_bestRowWeight_20 (by decide) ?_
    refine V_iret hR rfl (Nat.le_refl _) (Nat.le_refl _) dX11_bestRowWeight_27 ?_
    exact pub (gc_f (fun h => c_7 ((hasB_iff q_4).mp h))) rfl rfl ((((hP).fr q_3 (by decide))).up (by decide))
  · refine V_iconst dX11_bestRowWeight_8 ?_
    refine V_goto (tgt := 13) dX11_bestRowWeight_9 (by decide) ?_
    refine V_callVF (As := [.int (zI 0)]) (b := a 0) (hb := (show (mW a σ_2)[0]? = some (a 0, .inr (10, mF a σ_2)) from rfl)) (hc := (show vwCl[10]? = some (RX11, TX11, 30) from rfl)) hK (c_fails hE a σ_2 0 ⟨by omega, by omega⟩) mokX11_fails w1172 w1174 wps1_9 ⟨Nat.le_of_ble_eq_true rfl, Nat.le_of_ble_eq_true rfl⟩ rfl (Nat.le_of_ble_eq_true rfl) ⟨Nat.le_refl _, Nat.le_refl _⟩ dX11_bestRowWeight_13 (fun v w p_10 => ?_)
    obtain ⟨rfl, rfl⟩ := p_10
    show V K sX11_bestRowWeight 0 0 (mW a (up σ_2 1 29 0)) _ [.int (zI (bz (decide (0 < 0))))] 16
    refine V_ifd_eq (tgt := 23) dX11_bestRowWeight_16 (by decide) (fun _ => ?_) (fun h => absurd h (by decide))
    refine V_aload_n dX11_bestRowWeight_23 rfl ?_
    refine mg_bestRow rfl dX11_bestRowWeight_24 ?_
    refine V_iret hR rfl (Nat.le_refl _) (Nat.le_refl _) dX11_bestRowWeight_27 ?_
    exact pub (gc_t ((hasB_iff q_4).mpr c_7)) (ziE (bs_eq q_4 c_7).2.1) rfl ((((hP).fr q_3 (by decide))).up (by decide))
set_option maxRecDepth 100000 in
set_option maxHeartbeats 4000000 in
theorem c_bestColumnWeight {E : EV} (hE : Stb E) (a : Nat → Nat) (σ : St) (P : St) (hp : MI P ∧ PR P σ) : MC E yX11_bestColumnWeight sX11_bestColumnWeight [.ref (a 0)] (mW a σ) (fun v w => ∃ σ2 : St, v = some (.int (zI ((sp_bestColumnWeight P).2.1))) ∧ w = mW a σ2 ∧ (σ2 1 29 = (sp_bestColumnWeight P).1) ∧ (PR (sp_bestColumnWeight P).2.2 σ2)) := by
  refine MC.of hE [some (.ref (a 0))] 0 rfl rfl rfl (by simp [Value.category]) (Nat.le_of_ble_eq_true rfl) (fun K hK hR => ?_)
  obtain ⟨hM, hP⟩ := hp
  have e0 := hP 0 (by decide) (by decide)
  have f0 : ∀ i, σ 0 i = P 0 i := fun i => by rw [e0]
  have mR := hM.1
  have mC := hM.2.1
  have mN := hM.2.2.1
  have mp := hM.pts
  have ma := hM.als
  have gR := f0 0
  have gC := f0 1
  have gN := f0 2
  refine V_aload_n dX11_bestColumnWeight_0 rfl ?_
  refine V_aload_n dX11_bestColumnWeight_1 rfl ?_
  refine V_callVF (As := []) (b := a 0) (hb := (show (mW a σ)[0]? = some (a 0, .inr (10, mF a σ)) from rfl)) (hc := (show vwCl[10]? = some (RX11, TX11, 30) from rfl)) hK (c_hasBest hE a σ P ⟨hM, hP⟩) mokX11_hasBest w1482 w1484 wps3_13 ⟨Nat.le_of_ble_eq_true rfl, Nat.le_of_ble_eq_true rfl⟩ rfl (Nat.le_of_ble_eq_true rfl) ⟨Nat.le_refl _, Nat.le_refl _⟩ dX11_bestColumnWeight_2 (fun v w p_1 => ?_)
  obtain ⟨σ_2, rfl, rfl, q_3, q_4, q_5, q_6⟩ := p_1
  show V K sX11_bestColumnWeight 0 0 (mW a σ_2) _ [.int (zI (bz (decide (0 ≤ σ_2 1 26)))), .ref (a 0)] 5
  have hb2 := q_6
  refine V_ifd_eq (tgt := 12) dX11_bestColumnWeight_5 (by decide) (fun c_7 => ?_) (fun c_7 => ?_)
  · refine V_iconst dX11_bestColumnWeight_12 ?_
    refine V_callVF (As := [.int (zI 1)]) (b := a 0) (hb := (show (mW a σ_2)[0]? = some (a 0, .inr (10, mF a σ_2)) from rfl)) (hc := (show vwCl[10]? = some (RX11, TX11, 30) from rfl)) hK (c_fails hE a σ_2 1 ⟨by omega, by omega⟩) mokX11_fails w1172 w1174 wps1_9 ⟨Nat.le_of_ble_eq_true rfl, Nat.le_of_ble_eq_true rfl⟩ rfl (Nat.le_of_ble_eq_true rfl) ⟨Nat.le_refl _, Nat.le_refl _⟩ dX11_bestColumnWeight_13 (fun v w p_8 => ?_)
    obtain ⟨rfl, rfl⟩ := p_8
    show V K sX11_bestColumnWeight 0 0 (mW a (up σ_2 1 29 1)) _ [.int (zI (bz (decide (0 < 1))))] 16
    refine V_ifd_eq (tgt := 23) dX11_bestColumnWeight_16 (by decide) (fun h => absurd (by decide) h) (fun _ => ?_)
    refine V_iconst dX11_bestColumnWeight_19 ?_
    refine V_goto (tgt := 27) dX11_bestColumnWeight_20 (by decide) ?_
    refine V_iret hR rfl (Nat.le_refl _) (Nat.le_refl _) dX11_bestColumnWeight_27 ?_
    exact pub (gc_f (fun h => c_7 ((hasB_iff q_4).mp h))) rfl rfl ((((hP).fr q_3 (by decide))).up (by decide))
  · refine V_iconst dX11_bestColumnWeight_8 ?_
    refine V_goto (tgt := 13) dX11_bestColumnWeight_9 (by decide) ?_
    refine V_callVF (As := [.int (zI 0)]) (b := a 0) (hb := (show (mW a σ_2)[0]? = some (a 0, .inr (10, mF a σ_2)) from rfl)) (hc := (show vwCl[10]? = some (RX11, TX11, 30) from rfl)) hK (c_fails hE a σ_2 0 ⟨by omega, by omega⟩) mokX11_fails w1172 w1174 wps1_9 ⟨Nat.le_of_ble_eq_true rfl, Nat.le_of_ble_eq_true rfl⟩ rfl (Nat.le_of_ble_eq_true rfl) ⟨Nat.le_refl _, Nat.le_refl _⟩ dX11_bestColumnWeight_13 (fun v w p_10 => ?_)
    obtain ⟨rfl, rfl⟩ := p_10
    show V K sX11_bestColumnWeight 0 0 (mW a (up σ_2 1 29 0)) _ [.int (zI (bz (decide (0 < 0))))] 16
    refine V_ifd_eq (tgt := 23) dX11_bestColumnWeight_16 (by decide) (fun _ => ?_) (fun h => absurd h (by decide))
    refine V_aload_n dX11_bestColumnWeight_23 rfl ?_
    refine mg_bestColumn rfl dX11_bestColumnWeight_24 ?_
    refine V_iret hR rfl (Nat.le_refl _) (Nat.le_refl _) dX11_bestColumnWeight_27 ?_
    exact pub (gc_t ((hasB_iff q_4).mpr c_7)) (ziE (bs_eq q_4 c_7).2.2) rfl ((((hP).fr q_3 (by decide))).up (by decide))
set_option maxRecDepth 100000 in
set_option maxHeartbeats 4000000 in
theorem c_bestRoom {E : EV} (hE : Stb E) (a : Nat → Nat) (σ : St) (P : St) (hp : MI P ∧ PR P σ) : MC E yX11_bestRoom sX11_bestRoom [.ref (a 0)] (mW a σ) (fun v w => ∃ σ2 : St, v = some (.int (zI ((sp_bestRoom P).2.1))) ∧ w = mW a σ2 ∧ (σ2 1 29 = (sp_bestRoom P).1) ∧ (PR (sp_bestRoom P).2.2 σ2)) := by
  refine MC.of hE [some (.ref (a 0))] 0 rfl rfl rfl (by simp [Value.category]) (Nat.le_of_ble_eq_true rfl) (fun K hK hR => ?_)
  obtain ⟨hM, hP⟩ := hp
  have e0 := hP 0 (by decide) (by decide)
  have f0 : ∀ i, σ 0 i = P 0 i := fun i => by rw [e0]
  have mR := hM.1
  have mC := hM.2.1
  have mN := hM.2.2.1
  have mp := hM.pts
  have ma := hM.als
  have gR := f0 0
  have gC := f0 1
  have gN := f0 2
  refine V_aload_n dX11_bestRoom_0 rfl ?_
  refine V_aload_n dX11_bestRoom_1 rfl ?_
  refine V_callVF (As := []) (b := a 0) (hb := (show (mW a σ)[0]? = some (a 0, .inr (10, mF a σ)) from rfl)) (hc := (show vwCl[10]? = some (RX11, TX11, 30) from rfl)) hK (c_hasBest hE a σ P ⟨hM, hP⟩) mokX11_hasBest w1482 w1484 wps3_13 ⟨Nat.le_of_ble_eq_true rfl, Nat.le_of_ble_eq_true rfl⟩ rfl (Nat.le_of_ble_eq_true rfl) ⟨Nat.le_refl _, Nat.le_refl _⟩ dX11_bestRoom_2 (fun v w p_1 => ?_)
  obtain ⟨σ_2, rfl, rfl, q_3, q_4, q_5, q_6⟩ := p_1
  show V K sX11_bestRoom 0 0 (mW a σ_2) _ [.int (zI (bz (decide (0 ≤ σ_2 1 26)))), .ref (a 0)] 5
  have hb2 := q_6
  refine V_ifd_eq (tgt := 12) dX11_bestRoom_5 (by decide) (fun c_7 => ?_) (fun c_7 => ?_)
  · refine V_iconst dX11_bestRoom_12 ?_
    refine V_callVF (As := [.int (zI 1)]) (b := a 0) (hb := (show (mW a σ_2)[0]? = some (a 0, .inr (10, mF a σ_2)) from rfl)) (hc := (show vwCl[10]? = some (RX11, TX11, 30) from rfl)) hK (c_fails hE a σ_2 1 ⟨by omega, by omega⟩) mokX11_fails w1172 w1174 wps1_9 ⟨Nat.le_of_ble_eq_true rfl, Nat.le_of_ble_eq_true rfl⟩ rfl (Nat.le_of_ble_eq_true rfl) ⟨Nat.le_refl _, Nat.le_refl _⟩ dX11_bestRoom_13 (fun v w p_8 => ?_)
    obtain ⟨rfl, rfl⟩ := p_8
    show V K sX11_bestRoom 0 0 (mW a (up σ_2 1 29 1)) _ [.int (zI (bz (decide (0 < 1))))] 16
    refine V_ifd_eq (tgt := 23) dX11_bestRoom_16 (by decide) (fun h => absurd (by decide) h) (fun _ => ?_)
    refine V_iconst dX11_bestRoom_19 ?_
    refine V_goto (tgt := 27) dX11_bestRoom_20 (by decide) ?_
    refine V_iret hR rfl (Nat.le_refl _) (Nat.le_refl _) dX11_bestRoom_27 ?_
    exact pub (gc_f (fun h => c_7 ((hasB_iff q_4).mp h))) rfl rfl ((((hP).fr q_3 (by decide))).up (by decide))
  · refine V_iconst dX11_bestRoom_8 ?_
    refine V_goto (tgt := 13) dX11_bestRoom_9 (by decide) ?_
    refine V_callVF (As := [.int (zI 0)]) (b := a 0) (hb := (show (mW a σ_2)[0]? = some (a 0, .inr (10, mF a σ_2)) from rfl)) (hc := (show vwCl[10]? = some (RX11, TX11, 30) from rfl)) hK (c_fails hE a σ_2 0 ⟨by omega, by omega⟩) mokX11_fails w1172 w1174 wps1_9 ⟨Nat.le_of_ble_eq_true rfl, Nat.le_of_ble_eq_true rfl⟩ rfl (Nat.le_of_ble_eq_true rfl) ⟨Nat.le_refl _, Nat.le_refl _⟩ dX11_bestRoom_13 (fun v w p_10 => ?_)
    obtain ⟨rfl, rfl⟩ := p_10
    show V K sX11_bestRoom 0 0 (mW a (up σ_2 1 29 0)) _ [.int (zI (bz (decide (0 < 0))))] 16
    refine V_ifd_eq (tgt := 23) dX11_bestRoom_16 (by decide) (fun _ => ?_) (fun h => absurd h (by decide))
    refine V_aload_n dX11_bestRoom_23 rfl ?_
    refine mg_best rfl dX11_bestRoom_24 ?_
    refine V_iret hR rfl (Nat.le_refl _) (Nat.le_refl _) dX11_bestRoom_27 ?_
    exact pub (gc_t ((hasB_iff q_4).mpr c_7)) (ziE (bs_eq q_4 c_7).1) rfl ((((hP).fr q_3 (by decide))).up (by decide))

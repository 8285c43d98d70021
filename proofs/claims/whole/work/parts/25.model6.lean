set_option maxRecDepth 100000 in
set_option maxHeartbeats 4000000 in
theorem c_differs {E : EV} (hE : Stb E) (a : Nat → Nat) (σ : St) (s0 : Int) (P : St) (bw cw : Int) (hp : MI P ∧ PR P σ ∧ Dealt P bw cw σ ∧ Lived P bw cw σ ∧ 0 ≤ s0 ∧ s0 < P 0 2) : MC E yX11_differs sX11_differs [.ref (a 0), .int (zI s0)] (mW a σ) (fun v w => ∃ σ2 : St, v = none ∧ w = mW a σ2 ∧ (fr [24] σ σ2) ∧ (Diff P bw cw s0 σ2)) := by
  refine MC.of hE [some (.ref (a 0)), some (.int (zI s0)), none, none] 2 rfl rfl rfl (by simp [Value.category]) (Nat.le_of_ble_eq_true rfl) (fun K hK hR => ?_)
  obtain ⟨hM, hP, hp⟩ := hp
  have e0 := hP 0 (by decide) (by decide)
  have f0 : ∀ i, σ 0 i = P 0 i := fun i => by rw [e0]
  have mR := hM.1
  have mC := hM.2.1
  have mN := hM.2.2.1
  have mp := hM.pts
  have ma := hM.als
  have gR := f0 0
  have gC := f0 1
  have gN := f0 2
  obtain ⟨hD, hL, hs⟩ := hp
  have loop_27 : ∀ (n0 : Nat) (x : Int) (σ1 : St), (pt P - x).toNat = n0 → (0 ≤ x ∧ x ≤ pt P) → (fr [24] σ σ1) → (∀ i, 0 ≤ i → i < 225 → σ1 24 i = bz (dcd (∃ x2 y2, DP P bw cw s0 x2 y2 ∧ (x2 < x) ∧ di P x2 y2 = i))) → V K sX11_differs 0 0 (mW a σ1) [some (.ref (a 0)), some (.int (zI s0)), some (.int (zI (64 * s0 + x))), none] [] 27 := by
    intro n0
    induction n0 using Nat.strongRecOn with
    | _ n0 ih_27 =>
    intro x σ1 hm_27 hx hf hq
    have g1R : σ1 0 0 = P 0 0 := by rw [(hP.fr hf (by decide)) 0 (by decide) (by decide)]
    have g1C : σ1 0 1 = P 0 1 := by rw [(hP.fr hf (by decide)) 0 (by decide) (by decide)]
    have loop_49 : ∀ (n0 : Nat) (y : Int) (σ3 : St), (pt P - y).toNat = n0 → (x < pt P) → (x + 1 ≤ y ∧ y ≤ pt P) → (fr [24] σ σ3) → (∀ i, 0 ≤ i → i < 225 → σ3 24 i = bz (dcd (∃ x2 y2, DP P bw cw s0 x2 y2 ∧ (x2 < x ∨ (x2 = x ∧ y2 < y)) ∧ di P x2 y2 = i))) → V K sX11_differs 0 0 (mW a σ3) [some (.ref (a 0)), some (.int (zI s0)), some (.int (zI (64 * s0 + x))), some (.int (zI (64 * s0 + y)))] [] 49 := by
      intro n0
      induction n0 using Nat.strongRecOn with
      | _ n0 ih_49 =>
      intro y σ3 hm_49 hxn hy hf3 hq3
      have g3R : σ3 0 0 = P 0 0 := by rw [(hP.fr hf3 (by decide)) 0 (by decide) (by decide)]
      have g3C : σ3 0 1 = P 0 1 := by rw [(hP.fr hf3 (by decide)) 0 (by decide) (by decide)]
      have hD3 := hD.of (hf3 17 (by decide)) (hf3 18 (by decide))
      have hL3 := hL.of (hf3 19 (by decide))
      refine V_iload_n dX11_differs_49 rfl ?_
      refine V_bipush dX11_differs_50 (by decide) ?_
      refine V_iload_n dX11_differs_52 rfl ?_
      refine V_imul dX11_differs_53 ?_
      refine V_aload_n dX11_differs_54 rfl ?_
      refine mg_rows rfl dX11_differs_55 ?_
      refine V_aload_n dX11_differs_58 rfl ?_
      refine mg_columns rfl dX11_differs_59 ?_
      refine V_imul dX11_differs_62 ?_
      refine V_iadd dX11_differs_63 ?_
      refine V_eqT (y := zI (64 * s0 + pt P)) (by rw [g3R, g3C]; rfl) ?_
      refine V_icmp_ge (tgt := 117) dX11_differs_64 (by decide) ⟨⟨by omega, by omega⟩, ⟨by omega, by omega⟩⟩ (fun c_1 => ?_) (fun c_1 => ?_)
      · refine V_iinc (L' := [some (.ref (a 0)), some (.int (zI s0)), some (.int (zI ((64 * s0 + x) + 1))), some (.int (zI (64 * s0 + y)))]) dX11_differs_117 (by decide) rfl rfl ?_
        refine V_goto (tgt := 27) dX11_differs_120 (by decide) ?_
        refine V_locE (L' := [some (.ref (a 0)), some (.int (zI s0)), some (.int (zI (64 * s0 + (x + 1)))), some (.int (zI (64 * s0 + y)))]) (by rw [Int.add_assoc]) ?_
        refine V_mask (L' := [some (.ref (a 0)), some (.int (zI s0)), some (.int (zI (64 * s0 + (x + 1)))), none]) [true, true, true, false] rfl ?_
        refine ih_27 _ (by omega) (x + 1) σ3 rfl ?_ ?_ ?_
        · omega
        · exact hf3
        · refine bd_keep hq3 (fun i => ⟨?_, ?_⟩)
          · rintro ⟨x2, y2, h1, h2, h3⟩
            have := h1.2.2.1
            exact ⟨x2, y2, h1, by omega, h3⟩
          · rintro ⟨x2, y2, h1, h2, h3⟩
            exact ⟨x2, y2, h1, by omega, h3⟩
      · have cx := comp_eq hM hs.1 hs.2 hx.1 hxn
        have cy := comp_eq hM hs.1 hs.2 (show 0 ≤ y by omega) (show y < pt P by omega)
        have ex : (64 * s0 + x) % 64 = x := by omega
        have ey : (64 * s0 + y) % 64 = y := by omega
        have db := di_b hM hx.1 (show x < y by omega) (show y < pt P by omega)
        refine V_aload_n dX11_differs_67 rfl ?_
        refine V_iload_n dX11_differs_68 rfl ?_
        refine V_iload_n dX11_differs_69 rfl ?_
        refine V_callVF (As := [.int (zI (64 * s0 + x)), .int (zI (64 * s0 + y))]) (b := a 0) (hb := (show (mW a σ3)[0]? = some (a 0, .inr (10, mF a σ3)) from rfl)) (hc := (show vwCl[10]? = some (RX11, TX11, 30) from rfl)) hK (c_areInConflict hE a σ3 (64 * s0 + x) (64 * s0 + y) P bw cw (s0 * pt P + x) (s0 * pt P + y) ⟨hM, (hP.fr hf3 (by decide)), hD3, hL3, cx.1, cy.1, cx.2.2.2.symm, cy.2.2.2.symm⟩) mokX11_areInConflict w1327 w1329 wps2_13 ⟨Nat.le_of_ble_eq_true rfl, Nat.le_of_ble_eq_true rfl⟩ rfl (Nat.le_of_ble_eq_true rfl) ⟨Nat.le_refl _, Nat.le_refl _⟩ dX11_differs_70 (fun v w p_2 => ?_)
        obtain ⟨rfl, rfl⟩ := p_2
        show V K sX11_differs 0 0 (mW a σ3) _ [.int (zI (bz (cf P bw cw (s0 * pt P + x) (s0 * pt P + y))))] 73
        refine V_ifb_eq (tgt := 111) dX11_differs_73 (by decide) (fun c_3 => ?_) (fun c_3 => ?_)
        · refine V_iinc (L' := [some (.ref (a 0)), some (.int (zI s0)), some (.int (zI (64 * s0 + x))), some (.int (zI ((64 * s0 + y) + 1)))]) dX11_differs_111 (by decide) rfl rfl ?_
          refine V_goto (tgt := 49) dX11_differs_114 (by decide) ?_
          refine V_locE (L' := [some (.ref (a 0)), some (.int (zI s0)), some (.int (zI (64 * s0 + x))), some (.int (zI (64 * s0 + (y + 1))))]) (by rw [Int.add_assoc]) ?_
          refine ih_49 _ (by omega) (y + 1) σ3 rfl ?_ ?_ ?_ ?_
          · omega
          · omega
          · exact hf3
          · refine bd_keep hq3 (fun i => ⟨?_, ?_⟩)
            · rintro ⟨x2, y2, h1, h2, h3⟩
              refine ⟨x2, y2, h1, ?_, h3⟩
              by_cases e : x2 = x ∧ y2 = y
              · obtain ⟨e1, e2⟩ := e
                have := h1.2.2.2
                rw [e1, e2, c_3] at this
                cases this
              · omega
            · rintro ⟨x2, y2, h1, h2, h3⟩
              exact ⟨x2, y2, h1, by omega, h3⟩
        · refine V_aload_n dX11_differs_76 rfl ?_
          refine mg_apart rfl dX11_differs_77 ?_
          refine V_bipush dX11_differs_80 (by decide) ?_
          refine V_aload_n dX11_differs_82 rfl ?_
          refine V_iload_n dX11_differs_83 rfl ?_
          refine V_callVF (As := [.int (zI (64 * s0 + y))]) (b := a 0) (hb := (show (mW a σ3)[0]? = some (a 0, .inr (10, mF a σ3)) from rfl)) (hc := (show vwCl[10]? = some (RX11, TX11, 30) from rfl)) hK (c_row hE a σ3 (64 * s0 + y) P ⟨hM, (hP.fr hf3 (by decide)), by refine ⟨?_, ?_⟩ <;> (try refine ⟨?_, ?_⟩) <;> omega⟩) mokX11_row w1219 w1221 wps1_15 ⟨Nat.le_of_ble_eq_true rfl, Nat.le_of_ble_eq_true rfl⟩ rfl (Nat.le_of_ble_eq_true rfl) ⟨Nat.le_refl _, Nat.le_refl _⟩ dX11_differs_84 (fun v w p_4 => ?_)
          obtain ⟨rfl, rfl⟩ := p_4
          show V K sX11_differs 0 0 (mW a σ3) _ [.int (zI ((64 * s0 + y) % 64 / P 0 1)), .int (zI 15), .ref (a 24)] 87
          refine V_aload_n dX11_differs_87 rfl ?_
          refine V_iload_n dX11_differs_88 rfl ?_
          refine V_callVF (As := [.int (zI (64 * s0 + x))]) (b := a 0) (hb := (show (mW a σ3)[0]? = some (a 0, .inr (10, mF a σ3)) from rfl)) (hc := (show vwCl[10]? = some (RX11, TX11, 30) from rfl)) hK (c_row hE a σ3 (64 * s0 + x) P ⟨hM, (hP.fr hf3 (by decide)), by refine ⟨?_, ?_⟩ <;> (try refine ⟨?_, ?_⟩) <;> omega⟩) mokX11_row w1219 w1221 wps1_15 ⟨Nat.le_of_ble_eq_true rfl, Nat.le_of_ble_eq_true rfl⟩ rfl (Nat.le_of_ble_eq_true rfl) ⟨Nat.le_refl _, Nat.le_refl _⟩ dX11_differs_89 (fun v w p_5 => ?_)
          obtain ⟨rfl, rfl⟩ := p_5
          show V K sX11_differs 0 0 (mW a σ3) _ [.int (zI ((64 * s0 + x) % 64 / P 0 1)), .int (zI ((64 * s0 + y) % 64 / P 0 1)), .int (zI 15), .ref (a 24)] 92
          refine V_isub dX11_differs_92 ?_
          refine V_imul dX11_differs_93 ?_
          refine V_aload_n dX11_differs_94 rfl ?_
          refine V_iload_n dX11_differs_95 rfl ?_
          refine V_callVF (As := [.int (zI (64 * s0 + y))]) (b := a 0) (hb := (show (mW a σ3)[0]? = some (a 0, .inr (10, mF a σ3)) from rfl)) (hc := (show vwCl[10]? = some (RX11, TX11, 30) from rfl)) hK (c_column hE a σ3 (64 * s0 + y) P ⟨hM, (hP.fr hf3 (by decide)), by refine ⟨?_, ?_⟩ <;> (try refine ⟨?_, ?_⟩) <;> omega⟩) mokX11_column w1223 w1225 wps2_0 ⟨Nat.le_of_ble_eq_true rfl, Nat.le_of_ble_eq_true rfl⟩ rfl (Nat.le_of_ble_eq_true rfl) ⟨Nat.le_refl _, Nat.le_refl _⟩ dX11_differs_96 (fun v w p_6 => ?_)
          obtain ⟨rfl, rfl⟩ := p_6
          show V K sX11_differs 0 0 (mW a σ3) _ [.int (zI ((64 * s0 + y) % 64 % P 0 1)), .int (zI (15 * (((64 * s0 + y) % 64 / P 0 1) - ((64 * s0 + x) % 64 / P 0 1)))), .ref (a 24)] 99
          refine V_iadd dX11_differs_99 ?_
          refine V_aload_n dX11_differs_100 rfl ?_
          refine V_iload_n dX11_differs_101 rfl ?_
          refine V_callVF (As := [.int (zI (64 * s0 + x))]) (b := a 0) (hb := (show (mW a σ3)[0]? = some (a 0, .inr (10, mF a σ3)) from rfl)) (hc := (show vwCl[10]? = some (RX11, TX11, 30) from rfl)) hK (c_column hE a σ3 (64 * s0 + x) P ⟨hM, (hP.fr hf3 (by decide)), by refine ⟨?_, ?_⟩ <;> (try refine ⟨?_, ?_⟩) <;> omega⟩) mokX11_column w1223 w1225 wps2_0 ⟨Nat.le_of_ble_eq_true rfl, Nat.le_of_ble_eq_true rfl⟩ rfl (Nat.le_of_ble_eq_true rfl) ⟨Nat.le_refl _, Nat.le_refl _⟩ dX11_differs_102 (fun v w p_7 => ?_)
          obtain ⟨rfl, rfl⟩ := p_7
          show V K sX11_differs 0 0 (mW a σ3) _ [.int (zI ((64 * s0 + x) % 64 % P 0 1)), .int (zI ((15 * (((64 * s0 + y) % 64 / P 0 1) - ((64 * s0 + x) % 64 / P 0 1))) + ((64 * s0 + y) % 64 % P 0 1))), .ref (a 24)] 105
          refine V_isub dX11_differs_105 ?_
          refine V_bipush dX11_differs_106 (by decide) ?_
          refine V_iadd dX11_differs_108 ?_
          refine V_eqT (y := zI (di P x y)) (by rw [ey, ex]; rfl) ?_
          refine V_iconst dX11_differs_109 ?_
          refine ms_apart ⟨by omega, by omega⟩ (by omega) dX11_differs_110 ?_
          refine V_iinc (L' := [some (.ref (a 0)), some (.int (zI s0)), some (.int (zI (64 * s0 + x))), some (.int (zI ((64 * s0 + y) + 1)))]) dX11_differs_111 (by decide) rfl rfl ?_
          refine V_goto (tgt := 49) dX11_differs_114 (by decide) ?_
          refine V_locE (L' := [some (.ref (a 0)), some (.int (zI s0)), some (.int (zI (64 * s0 + x))), some (.int (zI (64 * s0 + (y + 1))))]) (by rw [Int.add_assoc]) ?_
          refine ih_49 _ (by omega) (y + 1) (up σ3 24 (di P x y) 1) rfl ?_ ?_ ?_ ?_
          · omega
          · omega
          · exact hf3.upd (by decide)
          · rw [up_eq]
            refine bd_up hq3 (fun i => ⟨?_, ?_⟩)
            · rintro ⟨x2, y2, h1, h2, h3⟩
              by_cases e : x2 = x ∧ y2 = y
              · right; rw [← h3, e.1, e.2]
              · exact Or.inl ⟨x2, y2, h1, by omega, h3⟩
            · rintro (⟨x2, y2, h1, h2, h3⟩ | rfl)
              · exact ⟨x2, y2, h1, by omega, h3⟩
              · exact ⟨x, y, ⟨hx.1, by omega, by omega, c_3⟩, by omega, rfl⟩
    have seg_49 : ∀ (y : Int) (σ3 : St), (x < pt P) → (x + 1 ≤ y ∧ y ≤ pt P) → (fr [24] σ σ3) → (∀ i, 0 ≤ i → i < 225 → σ3 24 i = bz (dcd (∃ x2 y2, DP P bw cw s0 x2 y2 ∧ (x2 < x ∨ (x2 = x ∧ y2 < y)) ∧ di P x2 y2 = i))) → V K sX11_differs 0 0 (mW a σ3) [some (.ref (a 0)), some (.int (zI s0)), some (.int (zI (64 * s0 + x))), some (.int (zI (64 * s0 + y)))] [] 49 := fun y σ3 hxn hy hf3 hq3 => loop_49 _ y σ3 rfl hxn hy hf3 hq3
    refine V_iload_n dX11_differs_27 rfl ?_
    refine V_bipush dX11_differs_28 (by decide) ?_
    refine V_iload_n dX11_differs_30 rfl ?_
    refine V_imul dX11_differs_31 ?_
    refine V_aload_n dX11_differs_32 rfl ?_
    refine mg_rows rfl dX11_differs_33 ?_
    refine V_aload_n dX11_differs_36 rfl ?_
    refine mg_columns rfl dX11_differs_37 ?_
    refine V_imul dX11_differs_40 ?_
    refine V_iadd dX11_differs_41 ?_
    refine V_eqT (y := zI (64 * s0 + pt P)) (by rw [g1R, g1C]; rfl) ?_
    refine V_icmp_ge (tgt := 123) dX11_differs_42 (by decide) ⟨⟨by omega, by omega⟩, ⟨by omega, by omega⟩⟩ (fun c_8 => ?_) (fun c_8 => ?_)
    · refine V_vret hR rfl (Nat.le_refl _) (Nat.le_refl _) dX11_differs_123 ?_
      refine ⟨σ1, rfl, rfl, hf, ?_⟩
      refine bd_keep hq (fun i => ⟨?_, ?_⟩)
      · rintro ⟨x2, y2, h1, h3⟩
        have := h1.2.2.1
        have := h1.2.1
        exact ⟨x2, y2, h1, by omega, h3⟩
      · rintro ⟨x2, y2, h1, h2, h3⟩
        exact ⟨x2, y2, h1, h3⟩
    · refine V_iload_n dX11_differs_45 rfl ?_
      refine V_iconst dX11_differs_46 ?_
      refine V_iadd dX11_differs_47 ?_
      refine V_istore_n (L' := [some (.ref (a 0)), some (.int (zI s0)), some (.int (zI (64 * s0 + x))), some (.int (zI ((64 * s0 + x) + 1)))]) dX11_differs_48 (by decide) rfl ?_
      refine V_locE (L' := [some (.ref (a 0)), some (.int (zI s0)), some (.int (zI (64 * s0 + x))), some (.int (zI (64 * s0 + (x + 1))))]) (by rw [Int.add_assoc]) ?_
      refine seg_49 (x + 1) σ1 ?_ ?_ ?_ ?_
      · omega
      · omega
      · exact hf
      · refine bd_keep hq (fun i => ⟨?_, ?_⟩)
        · rintro ⟨x2, y2, h1, h2, h3⟩
          have := h1.2.1
          exact ⟨x2, y2, h1, by omega, h3⟩
        · rintro ⟨x2, y2, h1, h2, h3⟩
          exact ⟨x2, y2, h1, Or.inl h2, h3⟩
  have seg_27 : ∀ (x : Int) (σ1 : St), (0 ≤ x ∧ x ≤ pt P) → (fr [24] σ σ1) → (∀ i, 0 ≤ i → i < 225 → σ1 24 i = bz (dcd (∃ x2 y2, DP P bw cw s0 x2 y2 ∧ (x2 < x) ∧ di P x2 y2 = i))) → V K sX11_differs 0 0 (mW a σ1) [some (.ref (a 0)), some (.int (zI s0)), some (.int (zI (64 * s0 + x))), none] [] 27 := fun x σ1 hx hf hq => loop_27 _ x σ1 rfl hx hf hq
  have loop_2 : ∀ (n0 : Nat) (u : Int) (σ1 : St), (225 - u).toNat = n0 → (0 ≤ u ∧ u ≤ 225) → (fr [24] σ σ1) → (∀ i, 0 ≤ i → i < u → σ1 24 i = 0) → V K sX11_differs 0 0 (mW a σ1) [some (.ref (a 0)), some (.int (zI s0)), some (.int (zI u)), none] [] 2 := by
    intro n0
    induction n0 using Nat.strongRecOn with
    | _ n0 ih_2 =>
    intro u σ1 hm_2 hu hf hz
    refine V_iload_n dX11_differs_2 rfl ?_
    refine V_sipush dX11_differs_3 (by decide) ?_
    refine V_icmp_ge (tgt := 22) dX11_differs_6 (by decide) ⟨⟨by omega, by omega⟩, ⟨by omega, by omega⟩⟩ (fun c_9 => ?_) (fun c_9 => ?_)
    · refine V_bipush dX11_differs_22 (by decide) ?_
      refine V_iload_n dX11_differs_24 rfl ?_
      refine V_imul dX11_differs_25 ?_
      refine V_eqT (y := zI (64 * s0 + 0)) (by rw [Int.add_zero]) ?_
      refine V_istore_n (L' := [some (.ref (a 0)), some (.int (zI s0)), some (.int (zI (64 * s0 + 0))), none]) dX11_differs_26 (by decide) rfl ?_
      refine seg_27 0 σ1 ?_ ?_ ?_
      · omega
      · exact hf
      · exact bd_none (fun i a b => hz i a (by omega)) (fun i ⟨x2, y2, h1, h2, _⟩ => by have := h1.1; omega)
    · refine V_aload_n dX11_differs_9 rfl ?_
      refine mg_apart rfl dX11_differs_10 ?_
      refine V_iload_n dX11_differs_13 rfl ?_
      refine V_iconst dX11_differs_14 ?_
      refine ms_apart ⟨by omega, by omega⟩ (by omega) dX11_differs_15 ?_
      refine V_iinc (L' := [some (.ref (a 0)), some (.int (zI s0)), some (.int (zI (u + 1))), none]) dX11_differs_16 (by decide) rfl rfl ?_
      refine V_goto (tgt := 2) dX11_differs_19 (by decide) ?_
      refine ih_2 _ (by omega) (u + 1) (up σ1 24 u 0) rfl ?_ ?_ ?_
      · omega
      · exact hf.upd (by decide)
      · intro i a b
        rw [up_eq]
        by_cases e : i = u
        · rw [e, fup_eq]
        · rw [fup_ne e]; exact hz i a (by omega)
  have seg_2 : ∀ (u : Int) (σ1 : St), (0 ≤ u ∧ u ≤ 225) → (fr [24] σ σ1) → (∀ i, 0 ≤ i → i < u → σ1 24 i = 0) → V K sX11_differs 0 0 (mW a σ1) [some (.ref (a 0)), some (.int (zI s0)), some (.int (zI u)), none] [] 2 := fun u σ1 hu hf hz => loop_2 _ u σ1 rfl hu hf hz
  refine V_iconst dX11_differs_0 ?_
  refine V_istore_n (L' := [some (.ref (a 0)), some (.int (zI s0)), some (.int (zI 0)), none]) dX11_differs_1 (by decide) rfl ?_
  refine seg_2 0 σ ?_ ?_ ?_
  · omega
  · exact fr.rf _ _
  · intro i a b; omega
set_option maxRecDepth 100000 in
set_option maxHeartbeats 4000000 in
theorem c_isRest {E : EV} (hE : Stb E) (a : Nat → Nat) (σ : St) (m : Int) (P : St) (bw cw s0 : Int) (hp : MI P ∧ PR P σ ∧ Diff P bw cw s0 σ ∧ 1 ≤ m ∧ m ≤ 1000) : MC E yX11_isRest sX11_isRest [.ref (a 0), .int (zI m)] (mW a σ) (fun v w => v = some (.int (zI (bz (dcd (rOK P bw cw s0 m))))) ∧ w = mW a σ) := by
  refine MC.of hE [some (.ref (a 0)), some (.int (zI m)), none, none, none] 3 rfl rfl rfl (by simp [Value.category]) (Nat.le_of_ble_eq_true rfl) (fun K hK hR => ?_)
  obtain ⟨hM, hP, hp⟩ := hp
  have e0 := hP 0 (by decide) (by decide)
  have f0 : ∀ i, σ 0 i = P 0 i := fun i => by rw [e0]
  have mR := hM.1
  have mC := hM.2.1
  have mN := hM.2.2.1
  have mp := hM.pts
  have ma := hM.als
  have gR := f0 0
  have gC := f0 1
  have gN := f0 2
  obtain ⟨hA, hm⟩ := hp
  have loop_4 : ∀ (n0 : Nat) (k : Int) (b : Bool), (225 - k).toNat = n0 → (0 ≤ k ∧ k ≤ 225) → (b = true ↔ ∀ i, 0 ≤ i → i < k → ¬ (DQ P bw cw s0 i ∧ Int.tmod (i / 15 * P 0 1 + i % 15 - 7) m = 0)) → V K sX11_isRest 0 0 (mW a σ) [some (.ref (a 0)), some (.int (zI m)), some (.int (zI (bz b))), some (.int (zI k)), none] [] 4 := by
    intro n0
    induction n0 using Nat.strongRecOn with
    | _ n0 ih_4 =>
    intro k b hm_4 hk hb
    refine V_iload_n dX11_isRest_4 rfl ?_
    refine V_sipush dX11_isRest_5 (by decide) ?_
    refine V_icmp_ge (tgt := 62) dX11_isRest_8 (by decide) ⟨⟨by omega, by omega⟩, ⟨by omega, by omega⟩⟩ (fun c_1 => ?_) (fun c_1 => ?_)
    · refine V_iload_n dX11_isRest_62 rfl ?_
      refine V_zret hR rfl (Nat.le_refl _) (Nat.le_refl _) dX11_isRest_63 ?_
      exact ⟨bzE (dcd_of (hb.trans ((show _ ↔ _ from ⟨fun h i a b => h i a (by omega), fun h i a b => h i a (by omega)⟩).trans (rOK_DQ hM).symm))), rfl⟩
    · have kb := mulB (a := k / 15) (b := P 0 1) (A := 14) (B := 8) (by omega) (by omega) (by omega) (by omega)
      refine V_iload_n dX11_isRest_11 rfl ?_
      refine V_bipush dX11_isRest_12 (by decide) ?_
      refine V_idiv dX11_isRest_14 ⟨⟨by omega, by omega⟩, ⟨by omega, by omega⟩, by omega, by omega⟩ ?_
      refine V_aload_n dX11_isRest_15 rfl ?_
      refine mg_columns rfl dX11_isRest_16 ?_
      refine V_imul dX11_isRest_19 ?_
      refine V_iload_n dX11_isRest_20 rfl ?_
      refine V_bipush dX11_isRest_21 (by decide) ?_
      refine V_iremN dX11_isRest_23 ⟨⟨by omega, by omega⟩, ⟨by omega, by omega⟩, by omega, by omega⟩ ?_
      refine V_iadd dX11_isRest_24 ?_
      refine V_bipush dX11_isRest_25 (by decide) ?_
      refine V_isub dX11_isRest_27 ?_
      refine V_eqT (y := zI (k / 15 * P 0 1 + k % 15 - 7)) (by rw [gC]) ?_
      refine V_istore (L' := [some (.ref (a 0)), some (.int (zI m)), some (.int (zI (bz b))), some (.int (zI k)), some (.int (zI (k / 15 * P 0 1 + k % 15 - 7)))]) dX11_isRest_28 (by decide) rfl ?_
      refine V_iload_n dX11_isRest_30 rfl ?_
      refine V_ifb_eq (tgt := 54) dX11_isRest_31 (by decide) (fun c_2 => ?_) (fun c_2 => ?_)
      · refine V_iconst dX11_isRest_54 ?_
        refine V_istore_n (L' := [some (.ref (a 0)), some (.int (zI m)), some (.int (zI 0)), some (.int (zI k)), some (.int (zI (k / 15 * P 0 1 + k % 15 - 7)))]) dX11_isRest_55 (by decide) rfl ?_
        refine V_iinc (L' := [some (.ref (a 0)), some (.int (zI m)), some (.int (zI 0)), some (.int (zI (k + 1))), some (.int (zI (k / 15 * P 0 1 + k % 15 - 7)))]) dX11_isRest_56 (by decide) rfl rfl ?_
        refine V_goto (tgt := 4) dX11_isRest_59 (by decide) ?_
        refine V_mask (L' := [some (.ref (a 0)), some (.int (zI m)), some (.int (zI 0)), some (.int (zI (k + 1))), none]) [true, true, true, true, false] rfl ?_
        refine ih_4 _ (by omega) (k + 1) false rfl ?_ ?_
        · omega
        · exact ball_s hb hk.1 (by rw [c_2]; simp)
      · refine V_aload_n dX11_isRest_34 rfl ?_
        refine mg_apart rfl dX11_isRest_35 ?_
        refine V_iload_n dX11_isRest_38 rfl ?_
        refine ml_apart ⟨by omega, by omega⟩ dX11_isRest_39 ?_
        refine V_eqT (y := zI (bz (dcd (DQ P bw cw s0 k)))) (by rw [hA k hk.1 (by omega)]) ?_
        refine V_ifc_eq (tgt := 50) dX11_isRest_40 (by decide) (fun c_3 => ?_) (fun c_3 => ?_)
        · refine V_iconst dX11_isRest_50 ?_
          refine V_goto (tgt := 55) dX11_isRest_51 (by decide) ?_
          refine V_istore_n (L' := [some (.ref (a 0)), some (.int (zI m)), some (.int (zI 1)), some (.int (zI k)), some (.int (zI (k / 15 * P 0 1 + k % 15 - 7)))]) dX11_isRest_55 (by decide) rfl ?_
          refine V_iinc (L' := [some (.ref (a 0)), some (.int (zI m)), some (.int (zI 1)), some (.int (zI (k + 1))), some (.int (zI (k / 15 * P 0 1 + k % 15 - 7)))]) dX11_isRest_56 (by decide) rfl rfl ?_
          refine V_goto (tgt := 4) dX11_isRest_59 (by decide) ?_
          refine V_mask (L' := [some (.ref (a 0)), some (.int (zI m)), some (.int (zI 1)), some (.int (zI (k + 1))), none]) [true, true, true, true, false] rfl ?_
          refine ih_4 _ (by omega) (k + 1) true rfl ?_ ?_
          · omega
          · exact ball_s hb hk.1 ⟨fun _ => ⟨c_2, fun h => c_3 h.1⟩, fun _ => rfl⟩
        · refine V_iload dX11_isRest_43 rfl ?_
          refine V_iload_n dX11_isRest_45 rfl ?_
          have kt := tmod_bounds (a := k / 15 * P 0 1 + k % 15 - 7) (M := m) (by omega)
          refine V_irem dX11_isRest_46 ⟨⟨by omega, by omega⟩, ⟨by omega, by omega⟩, by omega⟩ ?_
          refine V_if_eq (tgt := 54) dX11_isRest_47 (by decide) ⟨by omega, by omega⟩ (fun c_4 => ?_) (fun c_4 => ?_)
          · refine V_iconst dX11_isRest_54 ?_
            refine V_istore_n (L' := [some (.ref (a 0)), some (.int (zI m)), some (.int (zI 0)), some (.int (zI k)), some (.int (zI (k / 15 * P 0 1 + k % 15 - 7)))]) dX11_isRest_55 (by decide) rfl ?_
            refine V_iinc (L' := [some (.ref (a 0)), some (.int (zI m)), some (.int (zI 0)), some (.int (zI (k + 1))), some (.int (zI (k / 15 * P 0 1 + k % 15 - 7)))]) dX11_isRest_56 (by decide) rfl rfl ?_
            refine V_goto (tgt := 4) dX11_isRest_59 (by decide) ?_
            refine V_mask (L' := [some (.ref (a 0)), some (.int (zI m)), some (.int (zI 0)), some (.int (zI (k + 1))), none]) [true, true, true, true, false] rfl ?_
            refine ih_4 _ (by omega) (k + 1) false rfl ?_ ?_
            · omega
            · exact ball_s hb hk.1 ⟨fun h => (nomatch h), fun h => absurd ⟨c_3, c_4⟩ h.2⟩
          · refine V_iconst dX11_isRest_50 ?_
            refine V_goto (tgt := 55) dX11_isRest_51 (by decide) ?_
            refine V_istore_n (L' := [some (.ref (a 0)), some (.int (zI m)), some (.int (zI 1)), some (.int (zI k)), some (.int (zI (k / 15 * P 0 1 + k % 15 - 7)))]) dX11_isRest_55 (by decide) rfl ?_
            refine V_iinc (L' := [some (.ref (a 0)), some (.int (zI m)), some (.int (zI 1)), some (.int (zI (k + 1))), some (.int (zI (k / 15 * P 0 1 + k % 15 - 7)))]) dX11_isRest_56 (by decide) rfl rfl ?_
            refine V_goto (tgt := 4) dX11_isRest_59 (by decide) ?_
            refine V_mask (L' := [some (.ref (a 0)), some (.int (zI m)), some (.int (zI 1)), some (.int (zI (k + 1))), none]) [true, true, true, true, false] rfl ?_
            refine ih_4 _ (by omega) (k + 1) true rfl ?_ ?_
            · omega
            · exact ball_s hb hk.1 ⟨fun _ => ⟨c_2, fun h => c_4 h.2⟩, fun _ => rfl⟩
  have seg_4 : ∀ (k : Int) (b : Bool), (0 ≤ k ∧ k ≤ 225) → (b = true ↔ ∀ i, 0 ≤ i → i < k → ¬ (DQ P bw cw s0 i ∧ Int.tmod (i / 15 * P 0 1 + i % 15 - 7) m = 0)) → V K sX11_isRest 0 0 (mW a σ) [some (.ref (a 0)), some (.int (zI m)), some (.int (zI (bz b))), some (.int (zI k)), none] [] 4 := fun k b hk hb => loop_4 _ k b rfl hk hb
  refine V_iconst dX11_isRest_0 ?_
  refine V_istore_n (L' := [some (.ref (a 0)), some (.int (zI m)), some (.int (zI 1)), none, none]) dX11_isRest_1 (by decide) rfl ?_
  refine V_iconst dX11_isRest_2 ?_
  refine V_istore_n (L' := [some (.ref (a 0)), some (.int (zI m)), some (.int (zI 1)), some (.int (zI 0)), none]) dX11_isRest_3 (by decide) rfl ?_
  refine seg_4 0 true ?_ ?_
  · omega
  · exact ball_0
set_option maxRecDepth 100000 in
set_option maxHeartbeats 4000000 in
theorem c_isTwo {E : EV} (hE : Stb E) (a : Nat → Nat) (σ : St) (m1 : Int) (m2 : Int) (P : St) (bw cw s0 : Int) (hp : MI P ∧ PR P σ ∧ Diff P bw cw s0 σ ∧ (1 ≤ m1 ∧ m1 ≤ 1000) ∧ 1 ≤ m2 ∧ m2 ≤ 1000) : MC E yX11_isTwo sX11_isTwo [.ref (a 0), .int (zI m1), .int (zI m2)] (mW a σ) (fun v w => v = some (.int (zI (bz (dcd (tOK P bw cw s0 m1 m2))))) ∧ w = mW a σ) := by
  refine MC.of hE [some (.ref (a 0)), some (.int (zI m1)), some (.int (zI m2)), none, none] 2 rfl rfl rfl (by simp [Value.category]) (Nat.le_of_ble_eq_true rfl) (fun K hK hR => ?_)
  obtain ⟨hM, hP, hp⟩ := hp
  have e0 := hP 0 (by decide) (by decide)
  have f0 : ∀ i, σ 0 i = P 0 i := fun i => by rw [e0]
  have mR := hM.1
  have mC := hM.2.1
  have mN := hM.2.2.1
  have mp := hM.pts
  have ma := hM.als
  have gR := f0 0
  have gC := f0 1
  have gN := f0 2
  obtain ⟨hA, hm⟩ := hp
  have loop_5 : ∀ (n0 : Nat) (k : Int) (b : Bool), (225 - k).toNat = n0 → (0 ≤ k ∧ k ≤ 225) → (b = true ↔ ∀ i, 0 ≤ i → i < k → ¬ (DQ P bw cw s0 i ∧ Int.tmod (i / 15) m1 = 0 ∧ Int.tmod (i % 15 - 7) m2 = 0)) → V K sX11_isTwo 0 0 (mW a σ) [some (.ref (a 0)), some (.int (zI m1)), some (.int (zI m2)), some (.int (zI (bz b))), some (.int (zI k))] [] 5 := by
    intro n0
    induction n0 using Nat.strongRecOn with
    | _ n0 ih_5 =>
    intro k b hm_5 hk hb
    refine V_iload dX11_isTwo_5 rfl ?_
    refine V_sipush dX11_isTwo_7 (by decide) ?_
    refine V_icmp_ge (tgt := 62) dX11_isTwo_10 (by decide) ⟨⟨by omega, by omega⟩, ⟨by omega, by omega⟩⟩ (fun c_1 => ?_) (fun c_1 => ?_)
    · refine V_iload_n dX11_isTwo_62 rfl ?_
      refine V_zret hR rfl (Nat.le_refl _) (Nat.le_refl _) dX11_isTwo_63 ?_
      exact ⟨bzE (dcd_of (hb.trans ((show _ ↔ _ from ⟨fun h i a b => h i a (by omega), fun h i a b => h i a (by omega)⟩).trans (tOK_DQ hM).symm))), rfl⟩
    · refine V_iload_n dX11_isTwo_13 rfl ?_
      refine V_ifb_eq (tgt := 54) dX11_isTwo_14 (by decide) (fun c_2 => ?_) (fun c_2 => ?_)
      · refine V_iconst dX11_isTwo_54 ?_
        refine V_istore_n (L' := [some (.ref (a 0)), some (.int (zI m1)), some (.int (zI m2)), some (.int (zI 0)), some (.int (zI k))]) dX11_isTwo_55 (by decide) rfl ?_
        refine V_iinc (L' := [some (.ref (a 0)), some (.int (zI m1)), some (.int (zI m2)), some (.int (zI 0)), some (.int (zI (k + 1)))]) dX11_isTwo_56 (by decide) rfl rfl ?_
        refine V_goto (tgt := 5) dX11_isTwo_59 (by decide) ?_
        refine ih_5 _ (by omega) (k + 1) false rfl ?_ ?_
        · omega
        · exact ball_s hb hk.1 (by rw [c_2]; simp)
      · refine V_aload_n dX11_isTwo_17 rfl ?_
        refine mg_apart rfl dX11_isTwo_18 ?_
        refine V_iload dX11_isTwo_21 rfl ?_
        refine ml_apart ⟨by omega, by omega⟩ dX11_isTwo_23 ?_
        refine V_eqT (y := zI (bz (dcd (DQ P bw cw s0 k)))) (by rw [hA k hk.1 (by omega)]) ?_
        refine V_ifc_eq (tgt := 50) dX11_isTwo_24 (by decide) (fun c_3 => ?_) (fun c_3 => ?_)
        · refine V_iconst dX11_isTwo_50 ?_
          refine V_goto (tgt := 55) dX11_isTwo_51 (by decide) ?_
          refine V_istore_n (L' := [some (.ref (a 0)), some (.int (zI m1)), some (.int (zI m2)), some (.int (zI 1)), some (.int (zI k))]) dX11_isTwo_55 (by decide) rfl ?_
          refine V_iinc (L' := [some (.ref (a 0)), some (.int (zI m1)), some (.int (zI m2)), some (.int (zI 1)), some (.int (zI (k + 1)))]) dX11_isTwo_56 (by decide) rfl rfl ?_
          refine V_goto (tgt := 5) dX11_isTwo_59 (by decide) ?_
          refine ih_5 _ (by omega) (k + 1) true rfl ?_ ?_
          · omega
          · exact ball_s hb hk.1 ⟨fun _ => ⟨c_2, fun h => c_3 h.1⟩, fun _ => rfl⟩
        · refine V_iload dX11_isTwo_27 rfl ?_
          refine V_bipush dX11_isTwo_29 (by decide) ?_
          refine V_idiv dX11_isTwo_31 ⟨⟨by omega, by omega⟩, ⟨by omega, by omega⟩, by omega, by omega⟩ ?_
          refine V_iload_n dX11_isTwo_32 rfl ?_
          have kt := tmod_bounds (a := k / 15) (M := m1) (by omega)
          refine V_irem dX11_isTwo_33 ⟨⟨by omega, by omega⟩, ⟨by omega, by omega⟩, by omega⟩ ?_
          refine V_if_ne (tgt := 50) dX11_isTwo_34 (by decide) ⟨by omega, by omega⟩ (fun c_4 => ?_) (fun c_4 => ?_)
          · refine V_iconst dX11_isTwo_50 ?_
            refine V_goto (tgt := 55) dX11_isTwo_51 (by decide) ?_
            refine V_istore_n (L' := [some (.ref (a 0)), some (.int (zI m1)), some (.int (zI m2)), some (.int (zI 1)), some (.int (zI k))]) dX11_isTwo_55 (by decide) rfl ?_
            refine V_iinc (L' := [some (.ref (a 0)), some (.int (zI m1)), some (.int (zI m2)), some (.int (zI 1)), some (.int (zI (k + 1)))]) dX11_isTwo_56 (by decide) rfl rfl ?_
            refine V_goto (tgt := 5) dX11_isTwo_59 (by decide) ?_
            refine ih_5 _ (by omega) (k + 1) true rfl ?_ ?_
            · omega
            · exact ball_s hb hk.1 ⟨fun _ => ⟨c_2, fun h => c_4 h.2.1⟩, fun _ => rfl⟩
          · refine V_iload dX11_isTwo_37 rfl ?_
            refine V_bipush dX11_isTwo_39 (by decide) ?_
            refine V_iremN dX11_isTwo_41 ⟨⟨by omega, by omega⟩, ⟨by omega, by omega⟩, by omega, by omega⟩ ?_
            refine V_bipush dX11_isTwo_42 (by decide) ?_
            refine V_isub dX11_isTwo_44 ?_
            refine V_iload_n dX11_isTwo_45 rfl ?_
            have kt2 := tmod_bounds (a := k % 15 - 7) (M := m2) (by omega)
            refine V_irem dX11_isTwo_46 ⟨⟨by omega, by omega⟩, ⟨by omega, by omega⟩, by omega⟩ ?_
            refine V_if_eq (tgt := 54) dX11_isTwo_47 (by decide) ⟨by omega, by omega⟩ (fun c_5 => ?_) (fun c_5 => ?_)
            · refine V_iconst dX11_isTwo_54 ?_
              refine V_istore_n (L' := [some (.ref (a 0)), some (.int (zI m1)), some (.int (zI m2)), some (.int (zI 0)), some (.int (zI k))]) dX11_isTwo_55 (by decide) rfl ?_
              refine V_iinc (L' := [some (.ref (a 0)), some (.int (zI m1)), some (.int (zI m2)), some (.int (zI 0)), some (.int (zI (k + 1)))]) dX11_isTwo_56 (by decide) rfl rfl ?_
              refine V_goto (tgt := 5) dX11_isTwo_59 (by decide) ?_
              refine ih_5 _ (by omega) (k + 1) false rfl ?_ ?_
              · omega
              · exact ball_s hb hk.1 ⟨fun h => (nomatch h), fun h => absurd ⟨c_3, c_4, c_5⟩ h.2⟩
            · refine V_iconst dX11_isTwo_50 ?_
              refine V_goto (tgt := 55) dX11_isTwo_51 (by decide) ?_
              refine V_istore_n (L' := [some (.ref (a 0)), some (.int (zI m1)), some (.int (zI m2)), some (.int (zI 1)), some (.int (zI k))]) dX11_isTwo_55 (by decide) rfl ?_
              refine V_iinc (L' := [some (.ref (a 0)), some (.int (zI m1)), some (.int (zI m2)), some (.int (zI 1)), some (.int (zI (k + 1)))]) dX11_isTwo_56 (by decide) rfl rfl ?_
              refine V_goto (tgt := 5) dX11_isTwo_59 (by decide) ?_
              refine ih_5 _ (by omega) (k + 1) true rfl ?_ ?_
              · omega
              · exact ball_s hb hk.1 ⟨fun _ => ⟨c_2, fun h => c_5 h.2.2⟩, fun _ => rfl⟩
  have seg_5 : ∀ (k : Int) (b : Bool), (0 ≤ k ∧ k ≤ 225) → (b = true ↔ ∀ i, 0 ≤ i → i < k → ¬ (DQ P bw cw s0 i ∧ Int.tmod (i / 15) m1 = 0 ∧ Int.tmod (i % 15 - 7) m2 = 0)) → V K sX11_isTwo 0 0 (mW a σ) [some (.ref (a 0)), some (.int (zI m1)), some (.int (zI m2)), some (.int (zI (bz b))), some (.int (zI k))] [] 5 := fun k b hk hb => loop_5 _ k b rfl hk hb
  refine V_iconst dX11_isTwo_0 ?_
  refine V_istore_n (L' := [some (.ref (a 0)), some (.int (zI m1)), some (.int (zI m2)), some (.int (zI 1)), none]) dX11_isTwo_1 (by decide) rfl ?_
  refine V_iconst dX11_isTwo_2 ?_
  refine V_istore (L' := [some (.ref (a 0)), some (.int (zI m1)), some (.int (zI m2)), some (.int (zI 1)), some (.int (zI 0))]) dX11_isTwo_3 (by decide) rfl ?_
  refine seg_5 0 true ?_ ?_
  · omega
  · exact ball_0
set_option maxRecDepth 100000 in
set_option maxHeartbeats 4000000 in
theorem c_isSlant {E : EV} (hE : Stb E) (a : Nat → Nat) (σ : St) (sl : Int) (m : Int) (P : St) (bw cw s0 : Int) (hp : MI P ∧ PR P σ ∧ Diff P bw cw s0 σ ∧ (0 ≤ sl ∧ sl ≤ 9) ∧ 1 ≤ m ∧ m ≤ 1000) : MC E yX11_isSlant sX11_isSlant [.ref (a 0), .int (zI sl), .int (zI m)] (mW a σ) (fun v w => v = some (.int (zI (bz (dcd (sOK P bw cw s0 sl m))))) ∧ w = mW a σ) := by
  refine MC.of hE [some (.ref (a 0)), some (.int (zI sl)), some (.int (zI m)), none, none, none] 3 rfl rfl rfl (by simp [Value.category]) (Nat.le_of_ble_eq_true rfl) (fun K hK hR => ?_)
  obtain ⟨hM, hP, hp⟩ := hp
  have e0 := hP 0 (by decide) (by decide)
  have f0 : ∀ i, σ 0 i = P 0 i := fun i => by rw [e0]
  have mR := hM.1
  have mC := hM.2.1
  have mN := hM.2.2.1
  have mp := hM.pts
  have ma := hM.als
  have gR := f0 0
  have gC := f0 1
  have gN := f0 2
  obtain ⟨hA, hm⟩ := hp
  have loop_5 : ∀ (n0 : Nat) (k : Int) (b : Bool), (225 - k).toNat = n0 → (0 ≤ k ∧ k ≤ 225) → (b = true ↔ ∀ i, 0 ≤ i → i < k → ¬ (DQ P bw cw s0 i ∧ Int.tmod (i / 15 + (i % 15 - 7) * sl) m = 0)) → V K sX11_isSlant 0 0 (mW a σ) [some (.ref (a 0)), some (.int (zI sl)), some (.int (zI m)), some (.int (zI (bz b))), some (.int (zI k)), none] [] 5 := by
    intro n0
    induction n0 using Nat.strongRecOn with
    | _ n0 ih_5 =>
    intro k b hm_5 hk hb
    refine V_iload dX11_isSlant_5 rfl ?_
    refine V_sipush dX11_isSlant_7 (by decide) ?_
    refine V_icmp_ge (tgt := 64) dX11_isSlant_10 (by decide) ⟨⟨by omega, by omega⟩, ⟨by omega, by omega⟩⟩ (fun c_1 => ?_) (fun c_1 => ?_)
    · refine V_iload_n dX11_isSlant_64 rfl ?_
      refine V_zret hR rfl (Nat.le_refl _) (Nat.le_refl _) dX11_isSlant_65 ?_
      exact ⟨bzE (dcd_of (hb.trans ((show _ ↔ _ from ⟨fun h i a b => h i a (by omega), fun h i a b => h i a (by omega)⟩).trans (sOK_DQ hM).symm))), rfl⟩
    · have kb := mulB (a := k % 15) (b := sl) (A := 14) (B := 9) (by omega) (by omega) (by omega) (by omega)
      have kb2 : (k % 15 - 7) * sl = k % 15 * sl - 7 * sl := Int.sub_mul _ _ _
      refine V_iload dX11_isSlant_13 rfl ?_
      refine V_bipush dX11_isSlant_15 (by decide) ?_
      refine V_idiv dX11_isSlant_17 ⟨⟨by omega, by omega⟩, ⟨by omega, by omega⟩, by omega, by omega⟩ ?_
      refine V_iload dX11_isSlant_18 rfl ?_
      refine V_bipush dX11_isSlant_20 (by decide) ?_
      refine V_iremN dX11_isSlant_22 ⟨⟨by omega, by omega⟩, ⟨by omega, by omega⟩, by omega, by omega⟩ ?_
      refine V_bipush dX11_isSlant_23 (by decide) ?_
      refine V_isub dX11_isSlant_25 ?_
      refine V_iload_n dX11_isSlant_26 rfl ?_
      refine V_imul dX11_isSlant_27 ?_
      refine V_iadd dX11_isSlant_28 ?_
      refine V_istore (L' := [some (.ref (a 0)), some (.int (zI sl)), some (.int (zI m)), some (.int (zI (bz b))), some (.int (zI k)), some (.int (zI ((k / 15) + (((k % 15) - 7) * sl))))]) dX11_isSlant_29 (by decide) rfl ?_
      refine V_iload_n dX11_isSlant_31 rfl ?_
      refine V_ifb_eq (tgt := 56) dX11_isSlant_32 (by decide) (fun c_2 => ?_) (fun c_2 => ?_)
      · refine V_iconst dX11_isSlant_56 ?_
        refine V_istore_n (L' := [some (.ref (a 0)), some (.int (zI sl)), some (.int (zI m)), some (.int (zI 0)), some (.int (zI k)), some (.int (zI ((k / 15) + (((k % 15) - 7) * sl))))]) dX11_isSlant_57 (by decide) rfl ?_
        refine V_iinc (L' := [some (.ref (a 0)), some (.int (zI sl)), some (.int (zI m)), some (.int (zI 0)), some (.int (zI (k + 1))), some (.int (zI ((k / 15) + (((k % 15) - 7) * sl))))]) dX11_isSlant_58 (by decide) rfl rfl ?_
        refine V_goto (tgt := 5) dX11_isSlant_61 (by decide) ?_
        refine V_mask (L' := [some (.ref (a 0)), some (.int (zI sl)), some (.int (zI m)), some (.int (zI 0)), some (.int (zI (k + 1))), none]) [true, true, true, true, true, false] rfl ?_
        refine ih_5 _ (by omega) (k + 1) false rfl ?_ ?_
        · omega
        · exact ball_s hb hk.1 (by rw [c_2]; simp)
      · refine V_aload_n dX11_isSlant_35 rfl ?_
        refine mg_apart rfl dX11_isSlant_36 ?_
        refine V_iload dX11_isSlant_39 rfl ?_
        refine ml_apart ⟨by omega, by omega⟩ dX11_isSlant_41 ?_
        refine V_eqT (y := zI (bz (dcd (DQ P bw cw s0 k)))) (by rw [hA k hk.1 (by omega)]) ?_
        refine V_ifc_eq (tgt := 52) dX11_isSlant_42 (by decide) (fun c_3 => ?_) (fun c_3 => ?_)
        · refine V_iconst dX11_isSlant_52 ?_
          refine V_goto (tgt := 57) dX11_isSlant_53 (by decide) ?_
          refine V_istore_n (L' := [some (.ref (a 0)), some (.int (zI sl)), some (.int (zI m)), some (.int (zI 1)), some (.int (zI k)), some (.int (zI ((k / 15) + (((k % 15) - 7) * sl))))]) dX11_isSlant_57 (by decide) rfl ?_
          refine V_iinc (L' := [some (.ref (a 0)), some (.int (zI sl)), some (.int (zI m)), some (.int (zI 1)), some (.int (zI (k + 1))), some (.int (zI ((k / 15) + (((k % 15) - 7) * sl))))]) dX11_isSlant_58 (by decide) rfl rfl ?_
          refine V_goto (tgt := 5) dX11_isSlant_61 (by decide) ?_
          refine V_mask (L' := [some (.ref (a 0)), some (.int (zI sl)), some (.int (zI m)), some (.int (zI 1)), some (.int (zI (k + 1))), none]) [true, true, true, true, true, false] rfl ?_
          refine ih_5 _ (by omega) (k + 1) true rfl ?_ ?_
          · omega
          · exact ball_s hb hk.1 ⟨fun _ => ⟨c_2, fun h => c_3 h.1⟩, fun _ => rfl⟩
        · refine V_iload dX11_isSlant_45 rfl ?_
          refine V_iload_n dX11_isSlant_47 rfl ?_
          have kt := tmod_bounds (a := k / 15 + (k % 15 - 7) * sl) (M := m) (by omega)
          refine V_irem dX11_isSlant_48 ⟨⟨by omega, by omega⟩, ⟨by omega, by omega⟩, by omega⟩ ?_
          refine V_if_eq (tgt := 56) dX11_isSlant_49 (by decide) ⟨by omega, by omega⟩ (fun c_4 => ?_) (fun c_4 => ?_)
          · refine V_iconst dX11_isSlant_56 ?_
            refine V_istore_n (L' := [some (.ref (a 0)), some (.int (zI sl)), some (.int (zI m)), some (.int (zI 0)), some (.int (zI k)), some (.int (zI ((k / 15) + (((k % 15) - 7) * sl))))]) dX11_isSlant_57 (by decide) rfl ?_
            refine V_iinc (L' := [some (.ref (a 0)), some (.int (zI sl)), some (.int (zI m)), some (.int (zI 0)), some (.int (zI (k + 1))), some (.int (zI ((k / 15) + (((k % 15) - 7) * sl))))]) dX11_isSlant_58 (by decide) rfl rfl ?_
            refine V_goto (tgt := 5) dX11_isSlant_61 (by decide) ?_
            refine V_mask (L' := [some (.ref (a 0)), some (.int (zI sl)), some (.int (zI m)), some (.int (zI 0)), some (.int (zI (k + 1))), none]) [true, true, true, true, true, false] rfl ?_
            refine ih_5 _ (by omega) (k + 1) false rfl ?_ ?_
            · omega
            · exact ball_s hb hk.1 ⟨fun h => (nomatch h), fun h => absurd ⟨c_3, c_4⟩ h.2⟩
          · refine V_iconst dX11_isSlant_52 ?_
            refine V_goto (tgt := 57) dX11_isSlant_53 (by decide) ?_
            refine V_istore_n (L' := [some (.ref (a 0)), some (.int (zI sl)), some (.int (zI m)), some (.int (zI 1)), some (.int (zI k)), some (.int (zI ((k / 15) + (((k % 15) - 7) * sl))))]) dX11_isSlant_57 (by decide) rfl ?_
            refine V_iinc (L' := [some (.ref (a 0)), some (.int (zI sl)), some (.int (zI m)), some (.int (zI 1)), some (.int (zI (k + 1))), some (.int (zI ((k / 15) + (((k % 15) - 7) * sl))))]) dX11_isSlant_58 (by decide) rfl rfl ?_
            refine V_goto (tgt := 5) dX11_isSlant_61 (by decide) ?_
            refine V_mask (L' := [some (.ref (a 0)), some (.int (zI sl)), some (.int (zI m)), some (.int (zI 1)), some (.int (zI (k + 1))), none]) [true, true, true, true, true, false] rfl ?_
            refine ih_5 _ (by omega) (k + 1) true rfl ?_ ?_
            · omega
            · exact ball_s hb hk.1 ⟨fun _ => ⟨c_2, fun h => c_4 h.2⟩, fun _ => rfl⟩
  have seg_5 : ∀ (k : Int) (b : Bool), (0 ≤ k ∧ k ≤ 225) → (b = true ↔ ∀ i, 0 ≤ i → i < k → ¬ (DQ P bw cw s0 i ∧ Int.tmod (i / 15 + (i % 15 - 7) * sl) m = 0)) → V K sX11_isSlant 0 0 (mW a σ) [some (.ref (a 0)), some (.int (zI sl)), some (.int (zI m)), some (.int (zI (bz b))), some (.int (zI k)), none] [] 5 := fun k b hk hb => loop_5 _ k b rfl hk hb
  refine V_iconst dX11_isSlant_0 ?_
  refine V_istore_n (L' := [some (.ref (a 0)), some (.int (zI sl)), some (.int (zI m)), some (.int (zI 1)), none, none]) dX11_isSlant_1 (by decide) rfl ?_
  refine V_iconst dX11_isSlant_2 ?_
  refine V_istore (L' := [some (.ref (a 0)), some (.int (zI sl)), some (.int (zI m)), some (.int (zI 1)), some (.int (zI 0)), none]) dX11_isSlant_3 (by decide) rfl ?_
  refine seg_5 0 true ?_ ?_
  · omega
  · exact ball_0
set_option maxRecDepth 100000 in
set_option maxHeartbeats 4000000 in
theorem c_rest {E : EV} (hE : Stb E) (a : Nat → Nat) (σ : St) (P : St) (bw cw s0 : Int) (hp : MI P ∧ PR P σ ∧ Diff P bw cw s0 σ) : MC E yX11_rest sX11_rest [.ref (a 0)] (mW a σ) (fun v w => v = some (.int (zI (lr P bw cw s0))) ∧ w = mW a σ) := by
  refine MC.of hE [some (.ref (a 0)), none] 1 rfl rfl rfl (by simp [Value.category]) (Nat.le_of_ble_eq_true rfl) (fun K hK hR => ?_)
  obtain ⟨hM, hP, hp⟩ := hp
  have e0 := hP 0 (by decide) (by decide)
  have f0 : ∀ i, σ 0 i = P 0 i := fun i => by rw [e0]
  have mR := hM.1
  have mC := hM.2.1
  have mN := hM.2.2.1
  have mp := hM.pts
  have ma := hM.als
  have gR := f0 0
  have gC := f0 1
  have gN := f0 2
  have hA := hp
  have loop_2 : ∀ (n0 : Nat) (m : Int), (65 - m).toNat = n0 → (1 ≤ m ∧ m ≤ 64) → (∀ j, 1 ≤ j → j < m → ¬ rOK P bw cw s0 j) → V K sX11_rest 0 0 (mW a σ) [some (.ref (a 0)), some (.int (zI m))] [] 2 := by
    intro n0
    induction n0 using Nat.strongRecOn with
    | _ n0 ih_2 =>
    intro m hm_2 hm hn
    refine V_aload_n dX11_rest_2 rfl ?_
    refine V_iload_n dX11_rest_3 rfl ?_
    refine V_callVF (As := [.int (zI m)]) (b := a 0) (hb := (show (mW a σ)[0]? = some (a 0, .inr (10, mF a σ)) from rfl)) (hc := (show vwCl[10]? = some (RX11, TX11, 30) from rfl)) hK (c_isRest hE a σ m P bw cw s0 ⟨hM, hP, hA, by omega, by omega⟩) mokX11_isRest w1374 w1376 wps3_2 ⟨Nat.le_of_ble_eq_true rfl, Nat.le_of_ble_eq_true rfl⟩ rfl (Nat.le_of_ble_eq_true rfl) ⟨Nat.le_refl _, Nat.le_refl _⟩ dX11_rest_4 (fun v w p_1 => ?_)
    obtain ⟨rfl, rfl⟩ := p_1
    show V K sX11_rest 0 0 (mW a σ) _ [.int (zI (bz (dcd (rOK P bw cw s0 m))))] 7
    refine V_ifc_ne (tgt := 16) dX11_rest_7 (by decide) (fun c_2 => ?_) (fun c_2 => ?_)
    · refine V_iload_n dX11_rest_16 rfl ?_
      refine V_iret hR rfl (Nat.le_refl _) (Nat.le_refl _) dX11_rest_17 ?_
      exact ⟨ziE (lst_eq ⟨hm.1, c_2, hn⟩), rfl⟩
    · have hne : m ≠ 64 := fun e => by have := rOK_64 hM bw cw s0; rw [← e] at this; exact c_2 this
      refine V_iinc (L' := [some (.ref (a 0)), some (.int (zI (m + 1)))]) dX11_rest_10 (by decide) rfl rfl ?_
      refine V_goto (tgt := 2) dX11_rest_13 (by decide) ?_
      refine ih_2 _ (by omega) (m + 1) rfl ?_ ?_
      · omega
      · intro j a b
        by_cases e : j = m
        · rw [e]; exact c_2
        · exact hn j a (by omega)
  have seg_2 : ∀ (m : Int), (1 ≤ m ∧ m ≤ 64) → (∀ j, 1 ≤ j → j < m → ¬ rOK P bw cw s0 j) → V K sX11_rest 0 0 (mW a σ) [some (.ref (a 0)), some (.int (zI m))] [] 2 := fun m hm hn => loop_2 _ m rfl hm hn
  refine V_iconst dX11_rest_0 ?_
  refine V_istore_n (L' := [some (.ref (a 0)), some (.int (zI 1))]) dX11_rest_1 (by decide) rfl ?_
  refine seg_2 1 ?_ ?_
  · omega
  · intro j a b; omega
set_option maxRecDepth 100000 in
set_option maxHeartbeats 4000000 in
theorem c_slant {E : EV} (hE : Stb E) (a : Nat → Nat) (σ : St) (P : St) (bw cw s0 : Int) (hp : MI P ∧ PR P σ ∧ Diff P bw cw s0 σ) : MC E yX11_slant sX11_slant [.ref (a 0)] (mW a σ) (fun v w => v = some (.int (zI (ls P bw cw s0))) ∧ w = mW a σ) := by
  refine MC.of hE [some (.ref (a 0)), none] 1 rfl rfl rfl (by simp [Value.category]) (Nat.le_of_ble_eq_true rfl) (fun K hK hR => ?_)
  obtain ⟨hM, hP, hp⟩ := hp
  have e0 := hP 0 (by decide) (by decide)
  have f0 : ∀ i, σ 0 i = P 0 i := fun i => by rw [e0]
  have mR := hM.1
  have mC := hM.2.1
  have mN := hM.2.2.1
  have mp := hM.pts
  have ma := hM.als
  have gR := f0 0
  have gC := f0 1
  have gN := f0 2
  have hA := hp
  have hB := ls_spec hM bw cw s0
  have loop_3 : ∀ (n0 : Nat) (k : Int), (1000 - k).toNat = n0 → (10 ≤ k ∧ k ≤ ls P bw cw s0) → (∀ j, 10 ≤ j → j < k → ¬ sOK P bw cw s0 (j % 10) (j / 10)) → V K sX11_slant 0 0 (mW a σ) [some (.ref (a 0)), some (.int (zI k))] [] 3 := by
    intro n0
    induction n0 using Nat.strongRecOn with
    | _ n0 ih_3 =>
    intro k hm_3 hk hn
    refine V_aload_n dX11_slant_3 rfl ?_
    refine V_iload_n dX11_slant_4 rfl ?_
    refine V_bipush dX11_slant_5 (by decide) ?_
    refine V_iremN dX11_slant_7 ⟨⟨by omega, by omega⟩, ⟨by omega, by omega⟩, by omega, by omega⟩ ?_
    refine V_iload_n dX11_slant_8 rfl ?_
    refine V_bipush dX11_slant_9 (by decide) ?_
    refine V_idiv dX11_slant_11 ⟨⟨by omega, by omega⟩, ⟨by omega, by omega⟩, by omega, by omega⟩ ?_
    refine V_callVF (As := [.int (zI (k % 10)), .int (zI (k / 10))]) (b := a 0) (hb := (show (mW a σ)[0]? = some (a 0, .inr (10, mF a σ)) from rfl)) (hc := (show vwCl[10]? = some (RX11, TX11, 30) from rfl)) hK (c_isSlant hE a σ (k % 10) (k / 10) P bw cw s0 ⟨hM, hP, hA, by refine ⟨⟨?_, ?_⟩, ?_, ?_⟩ <;> omega⟩) mokX11_isSlant w1390 w1392 wps3_6 ⟨Nat.le_of_ble_eq_true rfl, Nat.le_of_ble_eq_true rfl⟩ rfl (Nat.le_of_ble_eq_true rfl) ⟨Nat.le_refl _, Nat.le_refl _⟩ dX11_slant_12 (fun v w p_1 => ?_)
    obtain ⟨rfl, rfl⟩ := p_1
    show V K sX11_slant 0 0 (mW a σ) _ [.int (zI (bz (dcd (sOK P bw cw s0 (k % 10) (k / 10)))))] 15
    refine V_ifc_ne (tgt := 24) dX11_slant_15 (by decide) (fun c_2 => ?_) (fun c_2 => ?_)
    · refine V_iload_n dX11_slant_24 rfl ?_
      refine V_iret hR rfl (Nat.le_refl _) (Nat.le_refl _) dX11_slant_25 ?_
      exact ⟨ziE (lst_eq (p := fun k => sOK P bw cw s0 (k % 10) (k / 10)) ⟨hk.1, c_2, hn⟩), rfl⟩
    · have hne : k ≠ ls P bw cw s0 := fun e => by have := hB.1.2.1; rw [← e] at this; exact c_2 this
      refine V_iinc (L' := [some (.ref (a 0)), some (.int (zI (k + 1)))]) dX11_slant_18 (by decide) rfl rfl ?_
      refine V_goto (tgt := 3) dX11_slant_21 (by decide) ?_
      refine ih_3 _ (by omega) (k + 1) rfl ?_ ?_
      · omega
      · intro j a b
        by_cases e : j = k
        · rw [e]; exact c_2
        · exact hn j a (by omega)
  have seg_3 : ∀ (k : Int), (10 ≤ k ∧ k ≤ ls P bw cw s0) → (∀ j, 10 ≤ j → j < k → ¬ sOK P bw cw s0 (j % 10) (j / 10)) → V K sX11_slant 0 0 (mW a σ) [some (.ref (a 0)), some (.int (zI k))] [] 3 := fun k hk hn => loop_3 _ k rfl hk hn
  refine V_bipush dX11_slant_0 (by decide) ?_
  refine V_istore_n (L' := [some (.ref (a 0)), some (.int (zI 10))]) dX11_slant_2 (by decide) rfl ?_
  refine seg_3 10 ?_ ?_
  · exact ⟨by omega, hB.1.1⟩
  · intro j a b; omega
set_option maxRecDepth 100000 in
set_option maxHeartbeats 4000000 in
theorem c_two {E : EV} (hE : Stb E) (a : Nat → Nat) (σ : St) (P : St) (bw cw s0 : Int) (hp : MI P ∧ PR P σ ∧ Diff P bw cw s0 σ) : MC E yX11_two sX11_two [.ref (a 0)] (mW a σ) (fun v w => v = some (.int (zI (100 * tw1 P bw cw s0 + tw2 P bw cw s0))) ∧ w = mW a σ) := by
  refine MC.of hE [some (.ref (a 0)), none, none, none, none] 4 rfl rfl rfl (by simp [Value.category]) (Nat.le_of_ble_eq_true rfl) (fun K hK hR => ?_)
  obtain ⟨hM, hP, hp⟩ := hp
  have e0 := hP 0 (by decide) (by decide)
  have f0 : ∀ i, σ 0 i = P 0 i := fun i => by rw [e0]
  have mR := hM.1
  have mC := hM.2.1
  have mN := hM.2.2.1
  have mp := hM.pts
  have ma := hM.als
  have gR := f0 0
  have gC := f0 1
  have gN := f0 2
  have hA := hp
  have hRC := tOK_RC hM bw cw s0
  have loop_28 : ∀ (n0 : Nat) (m : Int) (fa : Int) (fb : Int), (m).toNat = n0 → (0 ≤ m ∧ m ≤ P 0 0) → ((1 ≤ fa ∧ fa ≤ P 0 0) ∧ (1 ≤ fb ∧ fb ≤ P 0 1) ∧ tOK P bw cw s0 fa fb) → (∀ a2 b2, (1 ≤ a2 ∧ a2 ≤ P 0 0) → (1 ≤ b2 ∧ b2 ≤ P 0 1) → (m < a2) → tOK P bw cw s0 a2 b2 → (fa * fb < a2 * b2 ∨ (fa * fb = a2 * b2 ∧ fa ≤ a2))) → V K sX11_two 0 0 (mW a σ) [some (.ref (a 0)), some (.int (zI (100 * fa + fb))), some (.int (zI (fa * fb))), some (.int (zI m)), none] [] 28 := by
    intro n0
    induction n0 using Nat.strongRecOn with
    | _ n0 ih_28 =>
    intro m fa fb hm_28 hm hF hv
    have loop_38 : ∀ (n0 : Nat) (q : Int) (fa : Int) (fb : Int), (q).toNat = n0 → (0 < m) → (0 ≤ q ∧ q ≤ P 0 1) → ((1 ≤ fa ∧ fa ≤ P 0 0) ∧ (1 ≤ fb ∧ fb ≤ P 0 1) ∧ tOK P bw cw s0 fa fb) → (∀ a2 b2, (1 ≤ a2 ∧ a2 ≤ P 0 0) → (1 ≤ b2 ∧ b2 ≤ P 0 1) → (m < a2 ∨ (m = a2 ∧ q < b2)) → tOK P bw cw s0 a2 b2 → (fa * fb < a2 * b2 ∨ (fa * fb = a2 * b2 ∧ fa ≤ a2))) → V K sX11_two 0 0 (mW a σ) [some (.ref (a 0)), some (.int (zI (100 * fa + fb))), some (.int (zI (fa * fb))), some (.int (zI m)), some (.int (zI q))] [] 38 := by
      intro n0
      induction n0 using Nat.strongRecOn with
      | _ n0 ih_38 =>
      intro q fa fb hm_38 hm0 hq hF hv
      refine V_iload dX11_two_38 rfl ?_
      refine V_if_le (tgt := 80) dX11_two_40 (by decide) ⟨by omega, by omega⟩ (fun c_1 => ?_) (fun c_1 => ?_)
      · refine V_iinc (L' := [some (.ref (a 0)), some (.int (zI (100 * fa + fb))), some (.int (zI (fa * fb))), some (.int (zI (m + (-1)))), some (.int (zI q))]) dX11_two_80 (by decide) rfl rfl ?_
        refine V_goto (tgt := 28) dX11_two_83 (by decide) ?_
        refine V_mask (L' := [some (.ref (a 0)), some (.int (zI (100 * fa + fb))), some (.int (zI (fa * fb))), some (.int (zI (m + (-1)))), none]) [true, true, true, true, false] rfl ?_
        refine ih_28 _ (by omega) (m + (-1)) fa fb rfl ?_ ?_ ?_
        · omega
        · exact hF
        · intro a2 b2 h1 h2 h3 h4
          exact hv a2 b2 h1 h2 (by omega) h4
      · have mf := mulB (a := fa) (b := fb) (A := 8) (B := 8) (by omega) (by omega) (by omega) (by omega)
        have mq := mulB (a := m) (b := q) (A := 8) (B := 8) (by omega) (by omega) (by omega) (by omega)
        refine V_iload_n dX11_two_43 rfl ?_
        refine V_iload dX11_two_44 rfl ?_
        refine V_imul dX11_two_46 ?_
        refine V_iload_n dX11_two_47 rfl ?_
        refine V_icmp_gt (tgt := 74) dX11_two_48 (by decide) ⟨⟨by omega, by omega⟩, ⟨by omega, by omega⟩⟩ (fun c_2 => ?_) (fun c_2 => ?_)
        · refine V_iinc (L' := [some (.ref (a 0)), some (.int (zI (100 * fa + fb))), some (.int (zI (fa * fb))), some (.int (zI m)), some (.int (zI (q + (-1))))]) dX11_two_74 (by decide) rfl rfl ?_
          refine V_goto (tgt := 38) dX11_two_77 (by decide) ?_
          refine ih_38 _ (by omega) (q + (-1)) fa fb rfl ?_ ?_ ?_ ?_
          · omega
          · omega
          · exact hF
          · intro a2 b2 h1 h2 h3 h4
            by_cases e : a2 = m ∧ b2 = q
            · rw [e.1, e.2]; omega
            · exact hv a2 b2 h1 h2 (by omega) h4
        · refine V_aload_n dX11_two_51 rfl ?_
          refine V_iload_n dX11_two_52 rfl ?_
          refine V_iload dX11_two_53 rfl ?_
          refine V_callVF (As := [.int (zI m), .int (zI q)]) (b := a 0) (hb := (show (mW a σ)[0]? = some (a 0, .inr (10, mF a σ)) from rfl)) (hc := (show vwCl[10]? = some (RX11, TX11, 30) from rfl)) hK (c_isTwo hE a σ m q P bw cw s0 ⟨hM, hP, hA, by refine ⟨⟨?_, ?_⟩, ?_, ?_⟩ <;> omega⟩) mokX11_isTwo w1382 w1384 wps3_4 ⟨Nat.le_of_ble_eq_true rfl, Nat.le_of_ble_eq_true rfl⟩ rfl (Nat.le_of_ble_eq_true rfl) ⟨Nat.le_refl _, Nat.le_refl _⟩ dX11_two_55 (fun v w p_3 => ?_)
          obtain ⟨rfl, rfl⟩ := p_3
          show V K sX11_two 0 0 (mW a σ) _ [.int (zI (bz (dcd (tOK P bw cw s0 m q))))] 58
          refine V_ifc_eq (tgt := 74) dX11_two_58 (by decide) (fun c_4 => ?_) (fun c_4 => ?_)
          · refine V_iinc (L' := [some (.ref (a 0)), some (.int (zI (100 * fa + fb))), some (.int (zI (fa * fb))), some (.int (zI m)), some (.int (zI (q + (-1))))]) dX11_two_74 (by decide) rfl rfl ?_
            refine V_goto (tgt := 38) dX11_two_77 (by decide) ?_
            refine ih_38 _ (by omega) (q + (-1)) fa fb rfl ?_ ?_ ?_ ?_
            · omega
            · omega
            · exact hF
            · intro a2 b2 h1 h2 h3 h4
              by_cases e : a2 = m ∧ b2 = q
              · rw [e.1, e.2] at h4; exact absurd h4 c_4
              · exact hv a2 b2 h1 h2 (by omega) h4
          · refine V_bipush dX11_two_61 (by decide) ?_
            refine V_iload_n dX11_two_63 rfl ?_
            refine V_imul dX11_two_64 ?_
            refine V_iload dX11_two_65 rfl ?_
            refine V_iadd dX11_two_67 ?_
            refine V_istore_n (L' := [some (.ref (a 0)), some (.int (zI ((100 * m) + q))), some (.int (zI (fa * fb))), some (.int (zI m)), some (.int (zI q))]) dX11_two_68 (by decide) rfl ?_
            refine V_iload_n dX11_two_69 rfl ?_
            refine V_iload dX11_two_70 rfl ?_
            refine V_imul dX11_two_72 ?_
            refine V_istore_n (L' := [some (.ref (a 0)), some (.int (zI ((100 * m) + q))), some (.int (zI (m * q))), some (.int (zI m)), some (.int (zI q))]) dX11_two_73 (by decide) rfl ?_
            refine V_iinc (L' := [some (.ref (a 0)), some (.int (zI ((100 * m) + q))), some (.int (zI (m * q))), some (.int (zI m)), some (.int (zI (q + (-1))))]) dX11_two_74 (by decide) rfl rfl ?_
            refine V_goto (tgt := 38) dX11_two_77 (by decide) ?_
            refine ih_38 _ (by omega) (q + (-1)) m q rfl ?_ ?_ ?_ ?_
            · omega
            · omega
            · exact ⟨by omega, by omega, c_4⟩
            · intro a2 b2 h1 h2 h3 h4
              by_cases e : a2 = m ∧ b2 = q
              · rw [e.1, e.2]; omega
              · have := hv a2 b2 h1 h2 (by omega) h4; omega
    have seg_38 : ∀ (q : Int) (fa : Int) (fb : Int), (0 < m) → (0 ≤ q ∧ q ≤ P 0 1) → ((1 ≤ fa ∧ fa ≤ P 0 0) ∧ (1 ≤ fb ∧ fb ≤ P 0 1) ∧ tOK P bw cw s0 fa fb) → (∀ a2 b2, (1 ≤ a2 ∧ a2 ≤ P 0 0) → (1 ≤ b2 ∧ b2 ≤ P 0 1) → (m < a2 ∨ (m = a2 ∧ q < b2)) → tOK P bw cw s0 a2 b2 → (fa * fb < a2 * b2 ∨ (fa * fb = a2 * b2 ∧ fa ≤ a2))) → V K sX11_two 0 0 (mW a σ) [some (.ref (a 0)), some (.int (zI (100 * fa + fb))), some (.int (zI (fa * fb))), some (.int (zI m)), some (.int (zI q))] [] 38 := fun q fa fb hm0 hq hF hv => loop_38 _ q fa fb rfl hm0 hq hF hv
    refine V_iload_n dX11_two_28 rfl ?_
    refine V_if_le (tgt := 86) dX11_two_29 (by decide) ⟨by omega, by omega⟩ (fun c_5 => ?_) (fun c_5 => ?_)
    · refine V_iload_n dX11_two_86 rfl ?_
      refine V_iret hR rfl (Nat.le_refl _) (Nat.le_refl _) dX11_two_87 ?_
      obtain ⟨e1, e2⟩ := two_eq (P := P) (bw := bw) (cw := cw) (s := s0) ⟨⟨hF.1, hF.2.1⟩, hF.2.2, fun a2 b2 h1 h2 h3 => hv a2 b2 h1 h2 (by omega) h3⟩
      exact ⟨ziE (by rw [← e1, ← e2]), rfl⟩
    · refine V_aload_n dX11_two_32 rfl ?_
      refine mg_columns rfl dX11_two_33 ?_
      refine V_eqT (y := zI (P 0 1)) (by rw [gC]) ?_
      refine V_istore (L' := [some (.ref (a 0)), some (.int (zI (100 * fa + fb))), some (.int (zI (fa * fb))), some (.int (zI m)), some (.int (zI (P 0 1)))]) dX11_two_36 (by decide) rfl ?_
      refine seg_38 (P 0 1) fa fb ?_ ?_ ?_ ?_
      · omega
      · omega
      · exact hF
      · intro a2 b2 h1 h2 h3 h4
        exact hv a2 b2 h1 h2 (by omega) h4
  have seg_28 : ∀ (m : Int) (fa : Int) (fb : Int), (0 ≤ m ∧ m ≤ P 0 0) → ((1 ≤ fa ∧ fa ≤ P 0 0) ∧ (1 ≤ fb ∧ fb ≤ P 0 1) ∧ tOK P bw cw s0 fa fb) → (∀ a2 b2, (1 ≤ a2 ∧ a2 ≤ P 0 0) → (1 ≤ b2 ∧ b2 ≤ P 0 1) → (m < a2) → tOK P bw cw s0 a2 b2 → (fa * fb < a2 * b2 ∨ (fa * fb = a2 * b2 ∧ fa ≤ a2))) → V K sX11_two 0 0 (mW a σ) [some (.ref (a 0)), some (.int (zI (100 * fa + fb))), some (.int (zI (fa * fb))), some (.int (zI m)), none] [] 28 := fun m fa fb hm hF hv => loop_28 _ m fa fb rfl hm hF hv
  refine V_bipush dX11_two_0 (by decide) ?_
  refine V_aload_n dX11_two_2 rfl ?_
  refine mg_rows rfl dX11_two_3 ?_
  refine V_imul dX11_two_6 ?_
  refine V_aload_n dX11_two_7 rfl ?_
  refine mg_columns rfl dX11_two_8 ?_
  refine V_iadd dX11_two_11 ?_
  refine V_eqT (y := zI (100 * P 0 0 + P 0 1)) (by rw [gR, gC]) ?_
  refine V_istore_n (L' := [some (.ref (a 0)), some (.int (zI (100 * P 0 0 + P 0 1))), none, none, none]) dX11_two_12 (by decide) rfl ?_
  refine V_aload_n dX11_two_13 rfl ?_
  refine mg_rows rfl dX11_two_14 ?_
  refine V_aload_n dX11_two_17 rfl ?_
  refine mg_columns rfl dX11_two_18 ?_
  refine V_imul dX11_two_21 ?_
  refine V_eqT (y := zI (P 0 0 * P 0 1)) (by rw [gR, gC]) ?_
  refine V_istore_n (L' := [some (.ref (a 0)), some (.int (zI (100 * P 0 0 + P 0 1))), some (.int (zI (P 0 0 * P 0 1))), none, none]) dX11_two_22 (by decide) rfl ?_
  refine V_aload_n dX11_two_23 rfl ?_
  refine mg_rows rfl dX11_two_24 ?_
  refine V_eqT (y := zI (P 0 0)) (by rw [gR]) ?_
  refine V_istore_n (L' := [some (.ref (a 0)), some (.int (zI (100 * P 0 0 + P 0 1))), some (.int (zI (P 0 0 * P 0 1))), some (.int (zI (P 0 0))), none]) dX11_two_27 (by decide) rfl ?_
  refine seg_28 (P 0 0) (P 0 0) (P 0 1) ?_ ?_ ?_
  · omega
  · exact ⟨by omega, by omega, hRC⟩
  · intro a2 b2 h1 h2 h3; omega

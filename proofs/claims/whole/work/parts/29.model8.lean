set_option maxRecDepth 100000 in
set_option maxHeartbeats 4000000 in
theorem c_distances {E : EV} (hE : Stb E) (a : Nat → Nat) (σ : St) (s1 : Int) (s2 : Int) (P : St) (bw : Int) (cw : Int) (Q : Int → Prop) (hp : MI P ∧ PR P σ ∧ Dealt P bw cw σ ∧ Lived P bw cw σ ∧ (0 ≤ s1 ∧ s1 < P 0 2) ∧ (0 ≤ s2 ∧ s2 < P 0 2) ∧ ∀ i, 0 ≤ i → i < 64 → σ 25 i = bz (dcd (Q i))) : MC E yX11_distances sX11_distances [.ref (a 0), .int (zI s1), .int (zI s2)] (mW a σ) (fun v w => ∃ σ2 : St, v = none ∧ w = mW a σ2 ∧ (fr [25] σ σ2) ∧ (∀ i, 0 ≤ i → i < 64 → σ2 25 i = bz (dcd (Q i ∨ AQ P bw cw s1 s2 i)))) := by
  refine MC.of hE [some (.ref (a 0)), some (.int (zI s1)), some (.int (zI s2)), none, none, none] 3 rfl rfl rfl (by simp [Value.category]) (Nat.le_of_ble_eq_true rfl) (fun K hK hR => ?_)
  obtain ⟨hM, hP, hp⟩ := hp
  have e0 := hP 0 (by decide) (by decide)
  have f0 : ∀ i, σ 0 i = P 0 i := fun i => by rw [e0]
  have mR := hM.1
  have mC := hM.2.1
  have mN := hM.2.2.1
  have mp := hM.pts
  have ma := hM.als
  have gR := f0 0
  have gC := f0 1
  have gN := f0 2
  obtain ⟨hD, hL, hs1, hs2, hA⟩ := hp
  have loop_2 : ∀ (n0 : Nat) (x : Int) (σ1 : St), (pt P - x).toNat = n0 → (0 ≤ x ∧ x ≤ pt P) → (fr [25] σ σ1) → (∀ i, 0 ≤ i → i < 64 → σ1 25 i = bz (dcd (Q i ∨ ∃ x2 y2, cfp P bw cw s1 s2 x2 y2 ∧ (x2 < x) ∧ ab x2 y2 = i))) → V K sX11_distances 0 0 (mW a σ1) [some (.ref (a 0)), some (.int (zI s1)), some (.int (zI s2)), some (.int (zI x)), none, none] [] 2 := by
    intro n0
    induction n0 using Nat.strongRecOn with
    | _ n0 ih_2 =>
    intro x σ1 hm_2 hx hf hq
    have g1R : σ1 0 0 = P 0 0 := by rw [(hP.fr hf (by decide)) 0 (by decide) (by decide)]
    have g1C : σ1 0 1 = P 0 1 := by rw [(hP.fr hf (by decide)) 0 (by decide) (by decide)]
    have loop_18 : ∀ (n0 : Nat) (y : Int) (σ3 : St), (pt P - y).toNat = n0 → (x < pt P) → (0 ≤ y ∧ y ≤ pt P) → (fr [25] σ σ3) → (∀ i, 0 ≤ i → i < 64 → σ3 25 i = bz (dcd (Q i ∨ ∃ x2 y2, cfp P bw cw s1 s2 x2 y2 ∧ (x2 < x ∨ (x2 = x ∧ y2 < y)) ∧ ab x2 y2 = i))) → V K sX11_distances 0 0 (mW a σ3) [some (.ref (a 0)), some (.int (zI s1)), some (.int (zI s2)), some (.int (zI x)), some (.int (zI y)), none] [] 18 := by
      intro n0
      induction n0 using Nat.strongRecOn with
      | _ n0 ih_18 =>
      intro y σ3 hm_18 hxn hy hf3 hq3
      have g3R : σ3 0 0 = P 0 0 := by rw [(hP.fr hf3 (by decide)) 0 (by decide) (by decide)]
      have g3C : σ3 0 1 = P 0 1 := by rw [(hP.fr hf3 (by decide)) 0 (by decide) (by decide)]
      have hD3 := hD.of (hf3 17 (by decide)) (hf3 18 (by decide))
      have hL3 := hL.of (hf3 19 (by decide))
      refine V_iload dX11_distances_18 rfl ?_
      refine V_aload_n dX11_distances_20 rfl ?_
      refine mg_rows rfl dX11_distances_21 ?_
      refine V_aload_n dX11_distances_24 rfl ?_
      refine mg_columns rfl dX11_distances_25 ?_
      refine V_imul dX11_distances_28 ?_
      refine V_eqT (y := zI (pt P)) (by rw [g3R, g3C]; rfl) ?_
      refine V_icmp_ge (tgt := 84) dX11_distances_29 (by decide) ⟨⟨by omega, by omega⟩, ⟨by omega, by omega⟩⟩ (fun c_1 => ?_) (fun c_1 => ?_)
      · refine V_iinc (L' := [some (.ref (a 0)), some (.int (zI s1)), some (.int (zI s2)), some (.int (zI (x + 1))), some (.int (zI y)), none]) dX11_distances_84 (by decide) rfl rfl ?_
        refine V_goto (tgt := 2) dX11_distances_87 (by decide) ?_
        refine V_mask (L' := [some (.ref (a 0)), some (.int (zI s1)), some (.int (zI s2)), some (.int (zI (x + 1))), none, none]) [true, true, true, true, false, false] rfl ?_
        refine ih_2 _ (by omega) (x + 1) σ3 rfl ?_ ?_ ?_
        · omega
        · exact hf3
        · refine bd_keep hq3 (fun i => or_congr Iff.rfl ⟨?_, ?_⟩)
          · rintro ⟨x2, y2, h1, h2, h3⟩
            have := h1.2.1
            exact ⟨x2, y2, h1, by omega, h3⟩
          · rintro ⟨x2, y2, h1, h2, h3⟩
            exact ⟨x2, y2, h1, by omega, h3⟩
      · refine V_aload_n dX11_distances_32 rfl ?_
        have cx := comp_eq hM hs1.1 hs1.2 hx.1 hxn
        have cy := comp_eq hM hs2.1 hs2.2 hy.1 (show y < pt P by omega)
        have dab : 0 ≤ ab x y ∧ ab x y < 64 := by unfold ab; split <;> omega
        refine V_bipush dX11_distances_33 (by decide) ?_
        refine V_iload_n dX11_distances_35 rfl ?_
        refine V_imul dX11_distances_36 ?_
        refine V_iload_n dX11_distances_37 rfl ?_
        refine V_iadd dX11_distances_38 ?_
        refine V_bipush dX11_distances_39 (by decide) ?_
        refine V_iload_n dX11_distances_41 rfl ?_
        refine V_imul dX11_distances_42 ?_
        refine V_iload dX11_distances_43 rfl ?_
        refine V_iadd dX11_distances_45 ?_
        refine V_callVF (As := [.int (zI ((64 * s1) + x)), .int (zI ((64 * s2) + y))]) (b := a 0) (hb := (show (mW a σ3)[0]? = some (a 0, .inr (10, mF a σ3)) from rfl)) (hc := (show vwCl[10]? = some (RX11, TX11, 30) from rfl)) hK (c_areInConflict hE a σ3 ((64 * s1) + x) ((64 * s2) + y) P bw cw (s1 * pt P + x) (s2 * pt P + y) ⟨hM, (hP.fr hf3 (by decide)), hD3, hL3, cx.1, cy.1, cx.2.2.2.symm, cy.2.2.2.symm⟩) mokX11_areInConflict w1327 w1329 wps2_13 ⟨Nat.le_of_ble_eq_true rfl, Nat.le_of_ble_eq_true rfl⟩ rfl (Nat.le_of_ble_eq_true rfl) ⟨Nat.le_refl _, Nat.le_refl _⟩ dX11_distances_46 (fun v w p_2 => ?_)
        obtain ⟨rfl, rfl⟩ := p_2
        show V K sX11_distances 0 0 (mW a σ3) _ [.int (zI (bz (cf P bw cw (s1 * pt P + x) (s2 * pt P + y))))] 49
        refine V_istore (L' := [some (.ref (a 0)), some (.int (zI s1)), some (.int (zI s2)), some (.int (zI x)), some (.int (zI y)), some (.int (zI (bz (cf P bw cw (s1 * pt P + x) (s2 * pt P + y)))))]) dX11_distances_49 (by decide) rfl ?_
        refine V_aload_n dX11_distances_51 rfl ?_
        refine mg_away rfl dX11_distances_52 ?_
        refine V_iload_n dX11_distances_55 rfl ?_
        refine V_iload dX11_distances_56 rfl ?_
        refine V_icmp_ge (tgt := 68) dX11_distances_58 (by decide) ⟨⟨by omega, by omega⟩, ⟨by omega, by omega⟩⟩ (fun c_3 => ?_) (fun c_3 => ?_)
        · refine V_iload_n dX11_distances_68 rfl ?_
          refine V_iload dX11_distances_69 rfl ?_
          refine V_isub dX11_distances_71 ?_
          refine V_eqT (y := zI (ab x y)) (by rw [ab, if_neg (by omega)]) ?_
          refine V_dup2 dX11_distances_72 rfl rfl ?_
          refine ml_away ⟨by omega, by omega⟩ dX11_distances_73 ?_
          refine V_eqT (y := zI (bz (dcd (Q (ab x y) ∨ ∃ x2 y2, cfp P bw cw s1 s2 x2 y2 ∧ (x2 < x ∨ (x2 = x ∧ y2 < y)) ∧ ab x2 y2 = ab x y)))) (by rw [hq3 _ dab.1 dab.2]) ?_
          refine V_iload dX11_distances_74 rfl ?_
          refine V_iorb dX11_distances_76 ?_
          refine ms_away ⟨by omega, by omega⟩ (bz_01o _) dX11_distances_77 ?_
          refine V_iinc (L' := [some (.ref (a 0)), some (.int (zI s1)), some (.int (zI s2)), some (.int (zI x)), some (.int (zI (y + 1))), some (.int (zI (bz (cf P bw cw (s1 * pt P + x) (s2 * pt P + y)))))]) dX11_distances_78 (by decide) rfl rfl ?_
          refine V_goto (tgt := 18) dX11_distances_81 (by decide) ?_
          refine V_mask (L' := [some (.ref (a 0)), some (.int (zI s1)), some (.int (zI s2)), some (.int (zI x)), some (.int (zI (y + 1))), none]) [true, true, true, true, true, false] rfl ?_
          refine ih_18 _ (by omega) (y + 1) (up σ3 25 (ab x y) (bz ((dcd (Q (ab x y) ∨ ∃ x2 y2, cfp P bw cw s1 s2 x2 y2 ∧ (x2 < x ∨ (x2 = x ∧ y2 < y)) ∧ ab x2 y2 = ab x y)) || (cf P bw cw (s1 * pt P + x) (s2 * pt P + y))))) rfl ?_ ?_ ?_ ?_
          · omega
          · omega
          · exact hf3.upd (by decide)
          · rw [up_eq]
            refine bd_or hq3 (fun i => ⟨?_, ?_⟩)
            · rintro (h | ⟨x2, y2, h1, h2, h3⟩)
              · exact Or.inl (Or.inl h)
              · by_cases e : x2 = x ∧ y2 = y
                · right; rw [← h3, e.1, e.2]; rw [e.1, e.2] at h1; exact ⟨rfl, h1.2.2⟩
                · exact Or.inl (Or.inr ⟨x2, y2, h1, by omega, h3⟩)
            · rintro ((h | ⟨x2, y2, h1, h2, h3⟩) | ⟨rfl, h⟩)
              · exact Or.inl h
              · exact Or.inr ⟨x2, y2, h1, by omega, h3⟩
              · exact Or.inr ⟨x, y, ⟨⟨hx.1, hxn⟩, ⟨hy.1, by omega⟩, h⟩, by omega, rfl⟩
        · refine V_iload dX11_distances_61 rfl ?_
          refine V_iload_n dX11_distances_63 rfl ?_
          refine V_isub dX11_distances_64 ?_
          refine V_goto (tgt := 72) dX11_distances_65 (by decide) ?_
          refine V_eqT (y := zI (ab x y)) (by rw [ab, if_pos c_3]) ?_
          refine V_dup2 dX11_distances_72 rfl rfl ?_
          refine ml_away ⟨by omega, by omega⟩ dX11_distances_73 ?_
          refine V_eqT (y := zI (bz (dcd (Q (ab x y) ∨ ∃ x2 y2, cfp P bw cw s1 s2 x2 y2 ∧ (x2 < x ∨ (x2 = x ∧ y2 < y)) ∧ ab x2 y2 = ab x y)))) (by rw [hq3 _ dab.1 dab.2]) ?_
          refine V_iload dX11_distances_74 rfl ?_
          refine V_iorb dX11_distances_76 ?_
          refine ms_away ⟨by omega, by omega⟩ (bz_01o _) dX11_distances_77 ?_
          refine V_iinc (L' := [some (.ref (a 0)), some (.int (zI s1)), some (.int (zI s2)), some (.int (zI x)), some (.int (zI (y + 1))), some (.int (zI (bz (cf P bw cw (s1 * pt P + x) (s2 * pt P + y)))))]) dX11_distances_78 (by decide) rfl rfl ?_
          refine V_goto (tgt := 18) dX11_distances_81 (by decide) ?_
          refine V_mask (L' := [some (.ref (a 0)), some (.int (zI s1)), some (.int (zI s2)), some (.int (zI x)), some (.int (zI (y + 1))), none]) [true, true, true, true, true, false] rfl ?_
          refine ih_18 _ (by omega) (y + 1) (up σ3 25 (ab x y) (bz ((dcd (Q (ab x y) ∨ ∃ x2 y2, cfp P bw cw s1 s2 x2 y2 ∧ (x2 < x ∨ (x2 = x ∧ y2 < y)) ∧ ab x2 y2 = ab x y)) || (cf P bw cw (s1 * pt P + x) (s2 * pt P + y))))) rfl ?_ ?_ ?_ ?_
          · omega
          · omega
          · exact hf3.upd (by decide)
          · rw [up_eq]
            refine bd_or hq3 (fun i => ⟨?_, ?_⟩)
            · rintro (h | ⟨x2, y2, h1, h2, h3⟩)
              · exact Or.inl (Or.inl h)
              · by_cases e : x2 = x ∧ y2 = y
                · right; rw [← h3, e.1, e.2]; rw [e.1, e.2] at h1; exact ⟨rfl, h1.2.2⟩
                · exact Or.inl (Or.inr ⟨x2, y2, h1, by omega, h3⟩)
            · rintro ((h | ⟨x2, y2, h1, h2, h3⟩) | ⟨rfl, h⟩)
              · exact Or.inl h
              · exact Or.inr ⟨x2, y2, h1, by omega, h3⟩
              · exact Or.inr ⟨x, y, ⟨⟨hx.1, hxn⟩, ⟨hy.1, by omega⟩, h⟩, by omega, rfl⟩
    have seg_18 : ∀ (y : Int) (σ3 : St), (x < pt P) → (0 ≤ y ∧ y ≤ pt P) → (fr [25] σ σ3) → (∀ i, 0 ≤ i → i < 64 → σ3 25 i = bz (dcd (Q i ∨ ∃ x2 y2, cfp P bw cw s1 s2 x2 y2 ∧ (x2 < x ∨ (x2 = x ∧ y2 < y)) ∧ ab x2 y2 = i))) → V K sX11_distances 0 0 (mW a σ3) [some (.ref (a 0)), some (.int (zI s1)), some (.int (zI s2)), some (.int (zI x)), some (.int (zI y)), none] [] 18 := fun y σ3 hxn hy hf3 hq3 => loop_18 _ y σ3 rfl hxn hy hf3 hq3
    refine V_iload_n dX11_distances_2 rfl ?_
    refine V_aload_n dX11_distances_3 rfl ?_
    refine mg_rows rfl dX11_distances_4 ?_
    refine V_aload_n dX11_distances_7 rfl ?_
    refine mg_columns rfl dX11_distances_8 ?_
    refine V_imul dX11_distances_11 ?_
    refine V_eqT (y := zI (pt P)) (by rw [g1R, g1C]; rfl) ?_
    refine V_icmp_ge (tgt := 90) dX11_distances_12 (by decide) ⟨⟨by omega, by omega⟩, ⟨by omega, by omega⟩⟩ (fun c_4 => ?_) (fun c_4 => ?_)
    · refine V_vret hR rfl (Nat.le_refl _) (Nat.le_refl _) dX11_distances_90 ?_
      refine ⟨σ1, rfl, rfl, hf, bd_keep hq (fun i => or_congr Iff.rfl ⟨?_, ?_⟩)⟩
      · rintro ⟨x2, y2, h1, h3⟩
        have := h1.1
        exact ⟨x2, y2, h1, by omega, h3⟩
      · rintro ⟨x2, y2, h1, h2, h3⟩
        exact ⟨x2, y2, h1, h3⟩
    · refine V_iconst dX11_distances_15 ?_
      refine V_istore (L' := [some (.ref (a 0)), some (.int (zI s1)), some (.int (zI s2)), some (.int (zI x)), some (.int (zI 0)), none]) dX11_distances_16 (by decide) rfl ?_
      refine seg_18 0 σ1 ?_ ?_ ?_ ?_
      · omega
      · omega
      · exact hf
      · refine bd_keep hq (fun i => or_congr Iff.rfl ⟨?_, ?_⟩)
        · rintro ⟨x2, y2, h1, h2, h3⟩
          have := h1.2.1
          exact ⟨x2, y2, h1, by omega, h3⟩
        · rintro ⟨x2, y2, h1, h2, h3⟩
          exact ⟨x2, y2, h1, Or.inl h2, h3⟩
  have seg_2 : ∀ (x : Int) (σ1 : St), (0 ≤ x ∧ x ≤ pt P) → (fr [25] σ σ1) → (∀ i, 0 ≤ i → i < 64 → σ1 25 i = bz (dcd (Q i ∨ ∃ x2 y2, cfp P bw cw s1 s2 x2 y2 ∧ (x2 < x) ∧ ab x2 y2 = i))) → V K sX11_distances 0 0 (mW a σ1) [some (.ref (a 0)), some (.int (zI s1)), some (.int (zI s2)), some (.int (zI x)), none, none] [] 2 := fun x σ1 hx hf hq => loop_2 _ x σ1 rfl hx hf hq
  refine V_iconst dX11_distances_0 ?_
  refine V_istore_n (L' := [some (.ref (a 0)), some (.int (zI s1)), some (.int (zI s2)), some (.int (zI 0)), none, none]) dX11_distances_1 (by decide) rfl ?_
  refine seg_2 0 σ ?_ ?_ ?_
  · omega
  · exact fr.rf _ _
  · exact bd_keep hA (fun i => ⟨fun h => h.resolve_right (fun ⟨x2, y2, h1, h2, _⟩ => by have := h1.1; omega), Or.inl⟩)
set_option maxRecDepth 100000 in
set_option maxHeartbeats 4000000 in
theorem c_divides {E : EV} (hE : Stb E) (a : Nat → Nat) (σ : St) (m : Int) (P : St) (Q : Int → Prop) (hp : MI P ∧ PR P σ ∧ (1 ≤ m ∧ m ≤ 1000) ∧ ∀ i, 0 ≤ i → i < 64 → σ 25 i = bz (dcd (Q i))) : MC E yX11_divides sX11_divides [.ref (a 0), .int (zI m)] (mW a σ) (fun v w => v = some (.int (zI (bz (dcd (EXD Q m 64))))) ∧ w = mW a σ) := by
  refine MC.of hE [some (.ref (a 0)), some (.int (zI m)), none, none] 2 rfl rfl rfl (by simp [Value.category]) (Nat.le_of_ble_eq_true rfl) (fun K hK hR => ?_)
  obtain ⟨hM, hP, hp⟩ := hp
  have e0 := hP 0 (by decide) (by decide)
  have f0 : ∀ i, σ 0 i = P 0 i := fun i => by rw [e0]
  have mR := hM.1
  have mC := hM.2.1
  have mN := hM.2.2.1
  have mp := hM.pts
  have ma := hM.als
  have gR := f0 0
  have gC := f0 1
  have gN := f0 2
  obtain ⟨hm, hA⟩ := hp
  have loop_4 : ∀ (n0 : Nat) (k : Int) (b : Bool), (64 - k).toNat = n0 → (0 ≤ k ∧ k ≤ 64) → (b = true ↔ EXD Q m k) → V K sX11_divides 0 0 (mW a σ) [some (.ref (a 0)), some (.int (zI m)), some (.int (zI (bz b))), some (.int (zI k))] [] 4 := by
    intro n0
    induction n0 using Nat.strongRecOn with
    | _ n0 ih_4 =>
    intro k b hm_4 hk hb
    refine V_iload_n dX11_divides_4 rfl ?_
    refine V_bipush dX11_divides_5 (by decide) ?_
    refine V_icmp_ge (tgt := 41) dX11_divides_7 (by decide) ⟨⟨by omega, by omega⟩, ⟨by omega, by omega⟩⟩ (fun c_1 => ?_) (fun c_1 => ?_)
    · refine V_iload_n dX11_divides_41 rfl ?_
      refine V_zret hR rfl (Nat.le_refl _) (Nat.le_refl _) dX11_divides_42 ?_
      exact ⟨bzE (dcd_of (by rw [hb, show k = 64 by omega])), rfl⟩
    · refine V_iload_n dX11_divides_10 rfl ?_
      refine V_ifb_ne (tgt := 29) dX11_divides_11 (by decide) (fun c_2 => ?_) (fun c_2 => ?_)
      · refine V_iconst dX11_divides_29 ?_
        refine V_goto (tgt := 34) dX11_divides_30 (by decide) ?_
        refine V_istore_n (L' := [some (.ref (a 0)), some (.int (zI m)), some (.int (zI 1)), some (.int (zI k))]) dX11_divides_34 (by decide) rfl ?_
        refine V_iinc (L' := [some (.ref (a 0)), some (.int (zI m)), some (.int (zI 1)), some (.int (zI (k + 1)))]) dX11_divides_35 (by decide) rfl rfl ?_
        refine V_goto (tgt := 4) dX11_divides_38 (by decide) ?_
        refine ih_4 _ (by omega) (k + 1) true rfl ?_ ?_
        · omega
        · exact bex_s hb hk.1 (by rw [c_2]; simp)
      · refine V_aload_n dX11_divides_14 rfl ?_
        refine mg_away rfl dX11_divides_15 ?_
        refine V_iload_n dX11_divides_18 rfl ?_
        refine ml_away ⟨by omega, by omega⟩ dX11_divides_19 ?_
        refine V_eqT (y := zI (bz (dcd (Q k)))) (by rw [hA k hk.1 (by omega)]) ?_
        refine V_ifc_eq (tgt := 33) dX11_divides_20 (by decide) (fun c_3 => ?_) (fun c_3 => ?_)
        · refine V_iconst dX11_divides_33 ?_
          refine V_istore_n (L' := [some (.ref (a 0)), some (.int (zI m)), some (.int (zI 0)), some (.int (zI k))]) dX11_divides_34 (by decide) rfl ?_
          refine V_iinc (L' := [some (.ref (a 0)), some (.int (zI m)), some (.int (zI 0)), some (.int (zI (k + 1)))]) dX11_divides_35 (by decide) rfl rfl ?_
          refine V_goto (tgt := 4) dX11_divides_38 (by decide) ?_
          refine ih_4 _ (by omega) (k + 1) false rfl ?_ ?_
          · omega
          · exact bex_s hb hk.1 ⟨fun h => (nomatch h), fun h => h.elim (fun z => by rw [c_2] at z; cases z) (fun z => absurd z.1 c_3)⟩
        · refine V_iload_n dX11_divides_23 rfl ?_
          refine V_iload_n dX11_divides_24 rfl ?_
          refine V_iremN dX11_divides_25 ⟨⟨by omega, by omega⟩, ⟨by omega, by omega⟩, by omega, by omega⟩ ?_
          have kt := Int.emod_nonneg k (show m ≠ 0 by omega)
          have kt2 := Int.emod_lt_of_pos k (show 0 < m by omega)
          refine V_if_ne (tgt := 33) dX11_divides_26 (by decide) ⟨by omega, by omega⟩ (fun c_4 => ?_) (fun c_4 => ?_)
          · refine V_iconst dX11_divides_33 ?_
            refine V_istore_n (L' := [some (.ref (a 0)), some (.int (zI m)), some (.int (zI 0)), some (.int (zI k))]) dX11_divides_34 (by decide) rfl ?_
            refine V_iinc (L' := [some (.ref (a 0)), some (.int (zI m)), some (.int (zI 0)), some (.int (zI (k + 1)))]) dX11_divides_35 (by decide) rfl rfl ?_
            refine V_goto (tgt := 4) dX11_divides_38 (by decide) ?_
            refine ih_4 _ (by omega) (k + 1) false rfl ?_ ?_
            · omega
            · exact bex_s hb hk.1 ⟨fun h => (nomatch h), fun h => h.elim (fun z => by rw [c_2] at z; cases z) (fun z => absurd z.2 c_4)⟩
          · refine V_iconst dX11_divides_29 ?_
            refine V_goto (tgt := 34) dX11_divides_30 (by decide) ?_
            refine V_istore_n (L' := [some (.ref (a 0)), some (.int (zI m)), some (.int (zI 1)), some (.int (zI k))]) dX11_divides_34 (by decide) rfl ?_
            refine V_iinc (L' := [some (.ref (a 0)), some (.int (zI m)), some (.int (zI 1)), some (.int (zI (k + 1)))]) dX11_divides_35 (by decide) rfl rfl ?_
            refine V_goto (tgt := 4) dX11_divides_38 (by decide) ?_
            refine ih_4 _ (by omega) (k + 1) true rfl ?_ ?_
            · omega
            · exact bex_s hb hk.1 ⟨fun _ => Or.inr ⟨c_3, c_4⟩, fun _ => rfl⟩
  have seg_4 : ∀ (k : Int) (b : Bool), (0 ≤ k ∧ k ≤ 64) → (b = true ↔ EXD Q m k) → V K sX11_divides 0 0 (mW a σ) [some (.ref (a 0)), some (.int (zI m)), some (.int (zI (bz b))), some (.int (zI k))] [] 4 := fun k b hk hb => loop_4 _ k b rfl hk hb
  refine V_iconst dX11_divides_0 ?_
  refine V_istore_n (L' := [some (.ref (a 0)), some (.int (zI m)), some (.int (zI 0)), none]) dX11_divides_1 (by decide) rfl ?_
  refine V_iconst dX11_divides_2 ?_
  refine V_istore_n (L' := [some (.ref (a 0)), some (.int (zI m)), some (.int (zI 0)), some (.int (zI 0))]) dX11_divides_3 (by decide) rfl ?_
  refine seg_4 0 false ?_ ?_
  · omega
  · exact bex_0
set_option maxRecDepth 100000 in
set_option maxHeartbeats 4000000 in
theorem c_hasBest {E : EV} (hE : Stb E) (a : Nat → Nat) (σ : St) (P : St) (hp : MI P ∧ PR P σ) : MC E yX11_hasBest sX11_hasBest [.ref (a 0)] (mW a σ) (fun v w => ∃ σ2 : St, v = some (.int (zI (bz (decide (0 ≤ σ2 1 26))))) ∧ w = mW a σ2 ∧ (fr [1, 16, 17, 18, 19, 24] σ σ2) ∧ (IsBest P 16 (σ2 1 26) (σ2 1 27) (σ2 1 28)) ∧ (-1 ≤ σ2 1 26 ∧ σ2 1 26 ≤ 256) ∧ (-1 ≤ σ2 1 26)) := by
  refine MC.of hE [some (.ref (a 0)), none, none, none] 3 rfl rfl rfl (by simp [Value.category]) (Nat.le_of_ble_eq_true rfl) (fun K hK hR => ?_)
  obtain ⟨hM, hP⟩ := hp
  have e0 := hP 0 (by decide) (by decide)
  have f0 : ∀ i, σ 0 i = P 0 i := fun i => by rw [e0]
  have mR := hM.1
  have mC := hM.2.1
  have mN := hM.2.2.1
  have mp := hM.pts
  have ma := hM.als
  have gR := f0 0
  have gC := f0 1
  have gN := f0 2
  have loop_7 : ∀ (n0 : Nat) (k : Int) (σ1 : St), (16 - k).toNat = n0 → (0 ≤ k ∧ k ≤ 16) → (fr [1, 16, 17, 18, 19, 24] σ σ1 ∧ IsBest P k (σ1 1 26) (σ1 1 27) (σ1 1 28) ∧ (-1 ≤ σ1 1 26 ∧ σ1 1 26 ≤ 256)) → V K sX11_hasBest 0 0 (mW a σ1) [some (.ref (a 0)), some (.int (zI k)), none, none] [] 7 := by
    intro n0
    induction n0 using Nat.strongRecOn with
    | _ n0 ih_7 =>
    intro k σ1 hm_7 hk hf
    have loop_34 : ∀ (n0 : Nat) (s : Int) (σ3 : St), (P 0 2 - s).toNat = n0 → (k < 16) → (alw P (k / 4) (k % 4)) → (0 ≤ s ∧ s ≤ P 0 2) → (fr [1, 16, 17, 18, 19, 24] σ σ3 ∧ IsBest P k (σ3 1 26) (σ3 1 27) (σ3 1 28) ∧ (-1 ≤ σ3 1 26 ∧ σ3 1 26 ≤ 256)) → (Dealt P (k / 4) (k % 4) σ3) → (Lived P (k / 4) (k % 4) σ3) → V K sX11_hasBest 0 0 (mW a σ3) [some (.ref (a 0)), some (.int (zI k)), some (.int (zI (smv (lr P (k / 4) (k % 4)) s))), some (.int (zI s))] [] 34 := by
      intro n0
      induction n0 using Nat.strongRecOn with
      | _ n0 ih_34 =>
      intro s σ3 hm_34 hkn ha hs hf3 hD3 hL3
      have g3N : σ3 0 2 = P 0 2 := by rw [(hP.fr hf3.1 (by decide)) 0 (by decide) (by decide)]
      have sb := smv_b (f := lr P (k / 4) (k % 4)) (B := 64) s hs.1 (fun j _ _ => ⟨by have := lr_b hM (k / 4) (k % 4) j; omega, (lr_b hM (k / 4) (k % 4) j).2⟩)
      have ss := smv_s (lr P (k / 4) (k % 4)) hs.1
      refine V_iload_n dX11_hasBest_34 rfl ?_
      refine V_aload_n dX11_hasBest_35 rfl ?_
      refine mg_statements rfl dX11_hasBest_36 ?_
      refine V_icmp_ge (tgt := 60) dX11_hasBest_39 (by decide) ⟨⟨by omega, by omega⟩, ⟨by omega, by omega⟩⟩ (fun c_1 => ?_) (fun c_1 => ?_)
      · have hb3 := hf3.2.2
        refine V_aload_n dX11_hasBest_60 rfl ?_
        refine mg_best rfl dX11_hasBest_61 ?_
        refine V_if_lt (tgt := 75) dX11_hasBest_64 (by decide) ⟨by omega, by omega⟩ (fun c_2 => ?_) (fun c_2 => ?_)
        · refine V_aload_n dX11_hasBest_75 rfl ?_
          refine V_iload_n dX11_hasBest_76 rfl ?_
          refine mp_best rfl dX11_hasBest_77 ?_
          refine V_aload_n dX11_hasBest_80 rfl ?_
          refine V_iload_n dX11_hasBest_81 rfl ?_
          refine V_iconst dX11_hasBest_82 ?_
          refine V_idiv dX11_hasBest_83 ⟨⟨by omega, by omega⟩, ⟨by omega, by omega⟩, by omega, by omega⟩ ?_
          refine mp_bestRow rfl dX11_hasBest_84 ?_
          refine V_aload_n dX11_hasBest_87 rfl ?_
          refine V_iload_n dX11_hasBest_88 rfl ?_
          refine V_iconst dX11_hasBest_89 ?_
          refine V_iremN dX11_hasBest_90 ⟨⟨by omega, by omega⟩, ⟨by omega, by omega⟩, by omega, by omega⟩ ?_
          refine mp_bestColumn rfl dX11_hasBest_91 ?_
          refine V_iinc (L' := [some (.ref (a 0)), some (.int (zI (k + 1))), some (.int (zI (smv (lr P (k / 4) (k % 4)) s))), some (.int (zI s))]) dX11_hasBest_94 (by decide) rfl rfl ?_
          refine V_goto (tgt := 7) dX11_hasBest_97 (by decide) ?_
          refine V_mask (L' := [some (.ref (a 0)), some (.int (zI (k + 1))), none, none]) [true, true, false, false] rfl ?_
          refine ih_7 _ (by omega) (k + 1) (up (up (up σ3 1 26 (smv (lr P (k / 4) (k % 4)) s)) 1 27 (k / 4)) 1 28 (k % 4)) rfl ?_ ?_
          · omega
          · have es : s = P 0 2 := by omega
            rw [es] at sb
            refine ⟨((hf3.1.upd (by decide)).upd (by decide)).upd (by decide), ?_, ?_⟩
            · rw [es]; exact hf3.2.1.new hk.1 ha sb.1 (Or.inl c_2)
            · show -1 ≤ smv _ s ∧ smv _ s ≤ 256
              rw [es]; omega
        · refine V_iload_n dX11_hasBest_67 rfl ?_
          refine V_aload_n dX11_hasBest_68 rfl ?_
          refine mg_best rfl dX11_hasBest_69 ?_
          refine V_icmp_ge (tgt := 94) dX11_hasBest_72 (by decide) ⟨⟨by omega, by omega⟩, ⟨by omega, by omega⟩⟩ (fun c_3 => ?_) (fun c_3 => ?_)
          · refine V_iinc (L' := [some (.ref (a 0)), some (.int (zI (k + 1))), some (.int (zI (smv (lr P (k / 4) (k % 4)) s))), some (.int (zI s))]) dX11_hasBest_94 (by decide) rfl rfl ?_
            refine V_goto (tgt := 7) dX11_hasBest_97 (by decide) ?_
            refine V_mask (L' := [some (.ref (a 0)), some (.int (zI (k + 1))), none, none]) [true, true, false, false] rfl ?_
            refine ih_7 _ (by omega) (k + 1) σ3 rfl ?_ ?_
            · omega
            · exact ⟨hf3.1, hf3.2.1.worse hk.1 c_2 (by rw [show P 0 2 = s by omega]; exact c_3), hf3.2.2⟩
          · refine V_aload_n dX11_hasBest_75 rfl ?_
            refine V_iload_n dX11_hasBest_76 rfl ?_
            refine mp_best rfl dX11_hasBest_77 ?_
            refine V_aload_n dX11_hasBest_80 rfl ?_
            refine V_iload_n dX11_hasBest_81 rfl ?_
            refine V_iconst dX11_hasBest_82 ?_
            refine V_idiv dX11_hasBest_83 ⟨⟨by omega, by omega⟩, ⟨by omega, by omega⟩, by omega, by omega⟩ ?_
            refine mp_bestRow rfl dX11_hasBest_84 ?_
            refine V_aload_n dX11_hasBest_87 rfl ?_
            refine V_iload_n dX11_hasBest_88 rfl ?_
            refine V_iconst dX11_hasBest_89 ?_
            refine V_iremN dX11_hasBest_90 ⟨⟨by omega, by omega⟩, ⟨by omega, by omega⟩, by omega, by omega⟩ ?_
            refine mp_bestColumn rfl dX11_hasBest_91 ?_
            refine V_iinc (L' := [some (.ref (a 0)), some (.int (zI (k + 1))), some (.int (zI (smv (lr P (k / 4) (k % 4)) s))), some (.int (zI s))]) dX11_hasBest_94 (by decide) rfl rfl ?_
            refine V_goto (tgt := 7) dX11_hasBest_97 (by decide) ?_
            refine V_mask (L' := [some (.ref (a 0)), some (.int (zI (k + 1))), none, none]) [true, true, false, false] rfl ?_
            refine ih_7 _ (by omega) (k + 1) (up (up (up σ3 1 26 (smv (lr P (k / 4) (k % 4)) s)) 1 27 (k / 4)) 1 28 (k % 4)) rfl ?_ ?_
            · omega
            · have es : s = P 0 2 := by omega
              rw [es] at sb
              refine ⟨((hf3.1.upd (by decide)).upd (by decide)).upd (by decide), ?_, ?_⟩
              · rw [es]; exact hf3.2.1.new hk.1 ha sb.1 (Or.inr (by rw [← es]; exact c_3))
              · show -1 ≤ smv _ s ∧ smv _ s ≤ 256
                rw [es]; omega
      · refine V_aload_n dX11_hasBest_42 rfl ?_
        refine V_iload_n dX11_hasBest_43 rfl ?_
        refine V_callVF (As := [.int (zI s)]) (b := a 0) (hb := (show (mW a σ3)[0]? = some (a 0, .inr (10, mF a σ3)) from rfl)) (hc := (show vwCl[10]? = some (RX11, TX11, 30) from rfl)) hK (c_differs hE a σ3 s P (k / 4) (k % 4) ⟨hM, (hP.fr hf3.1 (by decide)), hD3, hL3, hs.1, by omega⟩) mokX11_differs w1366 w1368 wps3_0 ⟨Nat.le_of_ble_eq_true rfl, Nat.le_of_ble_eq_true rfl⟩ rfl (Nat.le_of_ble_eq_true rfl) ⟨Nat.le_refl _, Nat.le_refl _⟩ dX11_hasBest_44 (fun v w p_4 => ?_)
        obtain ⟨σ_5, rfl, rfl, q_6, q_7⟩ := p_4
        show V K sX11_hasBest 0 0 (mW a σ_5) _ [] 47
        refine V_iload_n dX11_hasBest_47 rfl ?_
        refine V_aload_n dX11_hasBest_48 rfl ?_
        refine V_callVF (As := []) (b := a 0) (hb := (show (mW a σ_5)[0]? = some (a 0, .inr (10, mF a σ_5)) from rfl)) (hc := (show vwCl[10]? = some (RX11, TX11, 30) from rfl)) hK (c_rest hE a σ_5 P (k / 4) (k % 4) s ⟨hM, (((hP.fr hf3.1 (by decide))).fr q_6 (by decide)), q_7⟩) mokX11_rest w1370 w1372 wps3_1 ⟨Nat.le_of_ble_eq_true rfl, Nat.le_of_ble_eq_true rfl⟩ rfl (Nat.le_of_ble_eq_true rfl) ⟨Nat.le_refl _, Nat.le_refl _⟩ dX11_hasBest_49 (fun v w p_8 => ?_)
        obtain ⟨rfl, rfl⟩ := p_8
        show V K sX11_hasBest 0 0 (mW a σ_5) _ [.int (zI (lr P (k / 4) (k % 4) s)), .int (zI (smv (lr P (k / 4) (k % 4)) s))] 52
        refine V_iadd dX11_hasBest_52 ?_
        refine V_istore_n (L' := [some (.ref (a 0)), some (.int (zI k)), some (.int (zI ((smv (lr P (k / 4) (k % 4)) s) + (lr P (k / 4) (k % 4) s)))), some (.int (zI s))]) dX11_hasBest_53 (by decide) rfl ?_
        refine V_iinc (L' := [some (.ref (a 0)), some (.int (zI k)), some (.int (zI ((smv (lr P (k / 4) (k % 4)) s) + (lr P (k / 4) (k % 4) s)))), some (.int (zI (s + 1)))]) dX11_hasBest_54 (by decide) rfl rfl ?_
        refine V_goto (tgt := 34) dX11_hasBest_57 (by decide) ?_
        refine V_locE (L' := [some (.ref (a 0)), some (.int (zI k)), some (.int (zI (smv (lr P (k / 4) (k % 4)) (s + 1)))), some (.int (zI (s + 1)))]) (by rw [ss]) ?_
        refine ih_34 _ (by omega) (s + 1) σ_5 rfl ?_ ?_ ?_ ?_ ?_ ?_
        · omega
        · omega
        · omega
        · exact ⟨fr.tr hf3.1 (q_6.mono (by decide)), by rw [q_6 1 (by decide)]; exact hf3.2.1, by rw [q_6 1 (by decide)]; exact hf3.2.2⟩
        · exact hD3.of (q_6 17 (by decide)) (q_6 18 (by decide))
        · exact hL3.of (q_6 19 (by decide))
    have seg_34 : ∀ (s : Int) (σ3 : St), (k < 16) → (alw P (k / 4) (k % 4)) → (0 ≤ s ∧ s ≤ P 0 2) → (fr [1, 16, 17, 18, 19, 24] σ σ3 ∧ IsBest P k (σ3 1 26) (σ3 1 27) (σ3 1 28) ∧ (-1 ≤ σ3 1 26 ∧ σ3 1 26 ≤ 256)) → (Dealt P (k / 4) (k % 4) σ3) → (Lived P (k / 4) (k % 4) σ3) → V K sX11_hasBest 0 0 (mW a σ3) [some (.ref (a 0)), some (.int (zI k)), some (.int (zI (smv (lr P (k / 4) (k % 4)) s))), some (.int (zI s))] [] 34 := fun s σ3 hkn ha hs hf3 hD3 hL3 => loop_34 _ s σ3 rfl hkn ha hs hf3 hD3 hL3
    refine V_iload_n dX11_hasBest_7 rfl ?_
    refine V_bipush dX11_hasBest_8 (by decide) ?_
    refine V_icmp_ge (tgt := 100) dX11_hasBest_10 (by decide) ⟨⟨by omega, by omega⟩, ⟨by omega, by omega⟩⟩ (fun c_9 => ?_) (fun c_9 => ?_)
    · have hb1 := hf.2.2
      refine V_aload_n dX11_hasBest_100 rfl ?_
      refine mg_best rfl dX11_hasBest_101 ?_
      refine V_if_lt (tgt := 111) dX11_hasBest_104 (by decide) ⟨by omega, by omega⟩ (fun c_10 => ?_) (fun c_10 => ?_)
      · refine V_iconst dX11_hasBest_111 ?_
        show V K sX11_hasBest 0 0 (mW a σ1) _ [.int (zI (bz false))] 112
        refine V_zret hR rfl (Nat.le_refl _) (Nat.le_refl _) dX11_hasBest_112 ?_
        exact ⟨σ1, bzF (by omega), rfl, hf.1, by rw [← show k = 16 by omega]; exact hf.2.1, hf.2.2, hf.2.2.1⟩
      · refine V_iconst dX11_hasBest_107 ?_
        refine V_goto (tgt := 112) dX11_hasBest_108 (by decide) ?_
        show V K sX11_hasBest 0 0 (mW a σ1) _ [.int (zI (bz true))] 112
        refine V_zret hR rfl (Nat.le_refl _) (Nat.le_refl _) dX11_hasBest_112 ?_
        exact ⟨σ1, bzT (by omega), rfl, hf.1, by rw [← show k = 16 by omega]; exact hf.2.1, hf.2.2, hf.2.2.1⟩
    · refine V_aload_n dX11_hasBest_13 rfl ?_
      refine V_iload_n dX11_hasBest_14 rfl ?_
      refine V_iconst dX11_hasBest_15 ?_
      refine V_idiv dX11_hasBest_16 ⟨⟨by omega, by omega⟩, ⟨by omega, by omega⟩, by omega, by omega⟩ ?_
      refine V_iload_n dX11_hasBest_17 rfl ?_
      refine V_iconst dX11_hasBest_18 ?_
      refine V_iremN dX11_hasBest_19 ⟨⟨by omega, by omega⟩, ⟨by omega, by omega⟩, by omega, by omega⟩ ?_
      refine V_callVF (As := [.int (zI (k / 4)), .int (zI (k % 4))]) (b := a 0) (hb := (show (mW a σ1)[0]? = some (a 0, .inr (10, mF a σ1)) from rfl)) (hc := (show vwCl[10]? = some (RX11, TX11, 30) from rfl)) hK (c_allows hE a σ1 (k / 4) (k % 4) P ⟨hM, (hP.fr hf.1 (by decide)), by refine ⟨⟨?_, ?_⟩, ?_, ?_⟩ <;> omega⟩) mokX11_allows w1203 w1205 wps1_11 ⟨Nat.le_of_ble_eq_true rfl, Nat.le_of_ble_eq_true rfl⟩ rfl (Nat.le_of_ble_eq_true rfl) ⟨Nat.le_refl _, Nat.le_refl _⟩ dX11_hasBest_20 (fun v w p_11 => ?_)
      obtain ⟨σ_12, rfl, rfl, q_13, q_14⟩ := p_11
      show V K sX11_hasBest 0 0 (mW a σ_12) _ [.int (zI (bz (dcd (alw P (k / 4) (k % 4)))))] 23
      refine V_ifc_eq (tgt := 94) dX11_hasBest_23 (by decide) (fun c_15 => ?_) (fun c_15 => ?_)
      · refine V_iinc (L' := [some (.ref (a 0)), some (.int (zI (k + 1))), none, none]) dX11_hasBest_94 (by decide) rfl rfl ?_
        refine V_goto (tgt := 7) dX11_hasBest_97 (by decide) ?_
        refine ih_7 _ (by omega) (k + 1) σ_12 rfl ?_ ?_
        · omega
        · exact ⟨fr.tr hf.1 (q_13.mono (by decide)), by rw [q_13 1 (by decide)]; exact hf.2.1.no hk.1 c_15, by rw [q_13 1 (by decide)]; exact hf.2.2⟩
      · refine V_aload_n dX11_hasBest_26 rfl ?_
        refine V_callVF (As := []) (b := a 0) (hb := (show (mW a σ_12)[0]? = some (a 0, .inr (10, mF a σ_12)) from rfl)) (hc := (show vwCl[10]? = some (RX11, TX11, 30) from rfl)) hK (c_lives hE a σ_12 P (k / 4) (k % 4) ⟨hM, (((hP.fr hf.1 (by decide))).fr q_13 (by decide)), q_14⟩) mokX11_lives w1299 w1301 wps2_10 ⟨Nat.le_of_ble_eq_true rfl, Nat.le_of_ble_eq_true rfl⟩ rfl (Nat.le_of_ble_eq_true rfl) ⟨Nat.le_refl _, Nat.le_refl _⟩ dX11_hasBest_27 (fun v w p_16 => ?_)
        obtain ⟨σ_17, rfl, rfl, q_18, q_19⟩ := p_16
        show V K sX11_hasBest 0 0 (mW a σ_17) _ [] 30
        refine V_iconst dX11_hasBest_30 ?_
        refine V_eqT (y := zI (smv (lr P (k / 4) (k % 4)) 0)) (by rw [smv_0]) ?_
        refine V_istore_n (L' := [some (.ref (a 0)), some (.int (zI k)), some (.int (zI (smv (lr P (k / 4) (k % 4)) 0))), none]) dX11_hasBest_31 (by decide) rfl ?_
        refine V_iconst dX11_hasBest_32 ?_
        refine V_istore_n (L' := [some (.ref (a 0)), some (.int (zI k)), some (.int (zI (smv (lr P (k / 4) (k % 4)) 0))), some (.int (zI 0))]) dX11_hasBest_33 (by decide) rfl ?_
        refine seg_34 0 σ_17 ?_ ?_ ?_ ?_ ?_ ?_
        · omega
        · exact c_15
        · omega
        · exact ⟨fr.tr hf.1 (fr.tr (q_13.mono (by decide)) (q_18.mono (by decide))), by rw [q_18 1 (by decide), q_13 1 (by decide)]; exact hf.2.1, by rw [q_18 1 (by decide), q_13 1 (by decide)]; exact hf.2.2⟩
        · exact q_14.of (q_18 17 (by decide)) (q_18 18 (by decide))
        · exact q_19
  have seg_7 : ∀ (k : Int) (σ1 : St), (0 ≤ k ∧ k ≤ 16) → (fr [1, 16, 17, 18, 19, 24] σ σ1 ∧ IsBest P k (σ1 1 26) (σ1 1 27) (σ1 1 28) ∧ (-1 ≤ σ1 1 26 ∧ σ1 1 26 ≤ 256)) → V K sX11_hasBest 0 0 (mW a σ1) [some (.ref (a 0)), some (.int (zI k)), none, none] [] 7 := fun k σ1 hk hf => loop_7 _ k σ1 rfl hk hf
  refine V_aload_n dX11_hasBest_0 rfl ?_
  refine V_iconst dX11_hasBest_1 ?_
  refine mp_best rfl dX11_hasBest_2 ?_
  refine V_iconst dX11_hasBest_5 ?_
  refine V_istore_n (L' := [some (.ref (a 0)), some (.int (zI 0)), none, none]) dX11_hasBest_6 (by decide) rfl ?_
  refine seg_7 0 (up σ 1 26 (-1)) ?_ ?_
  · omega
  · exact ⟨(fr.rf _ _).upd (by decide), Or.inl ⟨rfl, fun j a b => by omega⟩, (by decide : (-1 : Int) ≤ -1 ∧ (-1 : Int) ≤ 256)⟩
set_option maxRecDepth 100000 in
set_option maxHeartbeats 4000000 in
theorem c_seeks {E : EV} (hE : Stb E) (a : Nat → Nat) (σ : St) (s0 : Int) (P : St) (hp : MI P ∧ PR P σ ∧ 0 ≤ s0 ∧ s0 < P 0 2) : MC E yX11_seeks sX11_seeks [.ref (a 0), .int (zI s0)] (mW a σ) (fun v w => ∃ σ2 : St, v = none ∧ w = mW a σ2 ∧ (fr [16, 17, 18, 19, 24] σ σ2) ∧ (Diff P (P 0 11) (P 0 12) s0 σ2)) := by
  refine MC.of hE [some (.ref (a 0)), some (.int (zI s0))] 0 rfl rfl rfl (by simp [Value.category]) (Nat.le_of_ble_eq_true rfl) (fun K hK hR => ?_)
  obtain ⟨hM, hP, hp⟩ := hp
  have e0 := hP 0 (by decide) (by decide)
  have f0 : ∀ i, σ 0 i = P 0 i := fun i => by rw [e0]
  have mR := hM.1
  have mC := hM.2.1
  have mN := hM.2.2.1
  have mp := hM.pts
  have ma := hM.als
  have gR := f0 0
  have gC := f0 1
  have gN := f0 2
  refine V_aload_n dX11_seeks_0 rfl ?_
  refine V_callVF (As := []) (b := a 0) (hb := (show (mW a σ)[0]? = some (a 0, .inr (10, mF a σ)) from rfl)) (hc := (show vwCl[10]? = some (RX11, TX11, 30) from rfl)) hK (c_finds hE a σ P ⟨hM, hP⟩) mokX11_finds w1295 w1297 wps2_9 ⟨Nat.le_of_ble_eq_true rfl, Nat.le_of_ble_eq_true rfl⟩ rfl (Nat.le_of_ble_eq_true rfl) ⟨Nat.le_refl _, Nat.le_refl _⟩ dX11_seeks_1 (fun v w p_1 => ?_)
  obtain ⟨σ_2, rfl, rfl, q_3, q_4, q_5⟩ := p_1
  show V K sX11_seeks 0 0 (mW a σ_2) _ [] 4
  refine V_aload_n dX11_seeks_4 rfl ?_
  refine V_iload_n dX11_seeks_5 rfl ?_
  refine V_callVF (As := [.int (zI s0)]) (b := a 0) (hb := (show (mW a σ_2)[0]? = some (a 0, .inr (10, mF a σ_2)) from rfl)) (hc := (show vwCl[10]? = some (RX11, TX11, 30) from rfl)) hK (c_differs hE a σ_2 s0 P (P 0 11) (P 0 12) ⟨hM, ((hP).fr q_3 (by decide)), q_4, q_5, hp.1, hp.2⟩) mokX11_differs w1366 w1368 wps3_0 ⟨Nat.le_of_ble_eq_true rfl, Nat.le_of_ble_eq_true rfl⟩ rfl (Nat.le_of_ble_eq_true rfl) ⟨Nat.le_refl _, Nat.le_refl _⟩ dX11_seeks_6 (fun v w p_6 => ?_)
  obtain ⟨σ_7, rfl, rfl, q_8, q_9⟩ := p_6
  show V K sX11_seeks 0 0 (mW a σ_7) _ [] 9
  refine V_vret hR rfl (Nat.le_refl _) (Nat.le_refl _) dX11_seeks_9 ?_
  exact ⟨_, rfl, rfl, fr.tr (q_3.mono (by decide)) (q_8.mono (by decide)), q_9⟩

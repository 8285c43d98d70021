set_option maxRecDepth 100000 in
set_option maxHeartbeats 4000000 in
theorem c_lives {E : EV} (hE : Stb E) (a : Nat → Nat) (σ : St) (P : St) (bw cw : Int) (hp : MI P ∧ PR P σ ∧ Dealt P bw cw σ) : MC E yX11_lives sX11_lives [.ref (a 0)] (mW a σ) (fun v w => ∃ σ2 : St, v = none ∧ w = mW a σ2 ∧ (fr [19] σ σ2) ∧ (Lived P bw cw σ2)) := by
  refine MC.of hE [some (.ref (a 0)), none, none, none, none] 4 rfl rfl rfl (by simp [Value.category]) (Nat.le_of_ble_eq_true rfl) (fun K hK hR => ?_)
  obtain ⟨hM, hP, hp⟩ := hp
  have e0 := hP 0 (by decide) (by decide)
  have f0 : ∀ i, σ 0 i = P 0 i := fun i => by rw [e0]
  have mR := hM.1
  have mC := hM.2.1
  have mN := hM.2.2.1
  have mp := hM.pts
  have ma := hM.als
  have gR := f0 0
  have gC := f0 1
  have gN := f0 2
  have hD := hp
  have loop_51 : ∀ (n0 : Nat) (t : Int) (σ1 : St), (al P - t).toNat = n0 → (0 ≤ t ∧ t ≤ al P) → (fr [19] σ σ1) → (∀ k, 0 ≤ k → k < al P → EndS (Rm P bw cw t 0 k) (eb P bw cw k) (σ1 19 (cid P k))) → V K sX11_lives 0 0 (mW a σ1) [some (.ref (a 0)), some (.int (zI t)), none, none, none] [] 51 := by
    intro n0
    induction n0 using Nat.strongRecOn with
    | _ n0 ih_51 =>
    intro t σ1 hm_51 ht hf he
    have hP1 : PR P σ1 := hP.fr hf (by decide)
    have e18 : σ1 18 = σ 18 := hf 18 (by decide)
    have g9 : ∀ i, σ1 9 i = P 9 i := fun i => by rw [hP1 9 (by decide) (by decide)]
    have g4 : ∀ i, σ1 4 i = P 4 i := fun i => by rw [hP1 4 (by decide) (by decide)]
    have loop_73 : ∀ (n0 : Nat) (j : Int) (σ3 : St), (P 4 (ac P bw cw t / pt P) - j).toNat = n0 → (t < al P) → (0 ≤ j ∧ j ≤ P 4 (ac P bw cw t / pt P)) → (fr [19] σ σ3) → (∀ k, 0 ≤ k → k < al P → EndS (Rm P bw cw t j k) (eb P bw cw k) (σ3 19 (cid P k))) → V K sX11_lives 0 0 (mW a σ3) [some (.ref (a 0)), some (.int (zI t)), some (.int (zI (ac P bw cw t / pt P))), some (.int (zI (4 * (ac P bw cw t / pt P) + j))), none] [] 73 := by
      intro n0
      induction n0 using Nat.strongRecOn with
      | _ n0 ih_73 =>
      intro j σ3 hm_73 htn hj hf3 he3
      have hP3 : PR P σ3 := hP.fr hf3 (by decide)
      have e183 : σ3 18 = σ 18 := hf3 18 (by decide)
      have g43 : ∀ i, σ3 4 i = P 4 i := fun i => by rw [hP3 4 (by decide) (by decide)]
      have ka := hD.at ht.1 (show t < al P by omega)
      have kc := ac_spec (bw := bw) (cw := cw) ht.1 (show t < al P by omega)
      have kd := cid_b hM kc.1 kc.2.1
      have ke := cell_st hM kc.1 kc.2.1
      have q4 := (hM.2.2.2.2.2.1 (ac P bw cw t / pt P) (by omega) (by omega)).2.1
      have q5 := g43 (ac P bw cw t / pt P)
      refine V_iload_n dX11_lives_73 rfl ?_
      refine V_iconst dX11_lives_74 ?_
      refine V_iload_n dX11_lives_75 rfl ?_
      refine V_imul dX11_lives_76 ?_
      refine V_aload_n dX11_lives_77 rfl ?_
      refine mg_reads rfl dX11_lives_78 ?_
      refine V_iload_n dX11_lives_81 rfl ?_
      refine ml_reads ⟨by omega, by omega⟩ dX11_lives_82 ?_
      refine V_iadd dX11_lives_83 ?_
      refine V_icmp_ge (tgt := 130) dX11_lives_84 (by decide) ⟨⟨by omega, by omega⟩, ⟨by omega, by omega⟩⟩ (fun c_1 => ?_) (fun c_1 => ?_)
      · refine V_iinc (L' := [some (.ref (a 0)), some (.int (zI (t + 1))), some (.int (zI (ac P bw cw t / pt P))), some (.int (zI (4 * (ac P bw cw t / pt P) + j))), none]) dX11_lives_130 (by decide) rfl rfl ?_
        refine V_goto (tgt := 51) dX11_lives_133 (by decide) ?_
        refine V_mask (L' := [some (.ref (a 0)), some (.int (zI (t + 1))), none, none, none]) [true, true, false, false, false] rfl ?_
        refine ih_51 _ (by omega) (t + 1) σ3 rfl ?_ ?_ ?_
        · omega
        · exact hf3
        · intro k a b
          exact (he3 k a b).congr (fun x => by rw [show j = P 4 (ac P bw cw t / pt P) by omega]; exact Rm_row ht.1 htn)
      · have q6 := hM.2.2.2.2.2.2 (ac P bw cw t / pt P) j (by omega) (by omega) hj.1 (by omega)
        have kw := wt_cases hM ke.1 ke.2.1 ke.2.2.1 ke.2.2.2.1 q6.1
        refine V_aload_n dX11_lives_87 rfl ?_
        refine V_aload_n dX11_lives_88 rfl ?_
        refine mg_cellAt rfl dX11_lives_89 ?_
        refine V_iload_n dX11_lives_92 rfl ?_
        refine ml_cellAt ⟨by omega, by omega⟩ dX11_lives_93 ?_
        refine V_eqT (y := zI (cid P (ac P bw cw t))) (by rw [e183, ka]) ?_
        refine V_iload_n dX11_lives_94 rfl ?_
        refine V_callVF (As := [.int (zI (cid P (ac P bw cw t))), .int (zI (4 * (ac P bw cw t / pt P) + j))]) (b := a 0) (hb := (show (mW a σ3)[0]? = some (a 0, .inr (10, mF a σ3)) from rfl)) (hc := (show vwCl[10]? = some (RX11, TX11, 30) from rfl)) hK (c_wanted hE a σ3 (cid P (ac P bw cw t)) (4 * (ac P bw cw t / pt P) + j) P ⟨hM, hP3, by refine ⟨⟨?_, ?_⟩, ⟨?_, ?_⟩, ⟨?_, ?_⟩, ⟨?_, ?_⟩, ⟨?_, ?_⟩⟩ <;> omega⟩) mokX11_wanted w1235 w1237 wps2_3 ⟨Nat.le_of_ble_eq_true rfl, Nat.le_of_ble_eq_true rfl⟩ rfl (Nat.le_of_ble_eq_true rfl) ⟨Nat.le_refl _, Nat.le_refl _⟩ dX11_lives_95 (fun v w p_2 => ?_)
        obtain ⟨rfl, rfl⟩ := p_2
        show V K sX11_lives 0 0 (mW a σ3) _ [.int (zI (wt P (cid P (ac P bw cw t)) (4 * (ac P bw cw t / pt P) + j)))] 98
        refine V_istore (L' := [some (.ref (a 0)), some (.int (zI t)), some (.int (zI (ac P bw cw t / pt P))), some (.int (zI (4 * (ac P bw cw t / pt P) + j))), some (.int (zI (wt P (cid P (ac P bw cw t)) (4 * (ac P bw cw t / pt P) + j))))]) dX11_lives_98 (by decide) rfl ?_
        refine V_iload dX11_lives_100 rfl ?_
        have w0 : cid P (ac P bw cw t) = 64 * (ac P bw cw t / pt P) + ac P bw cw t % pt P := rfl
        rw [← w0] at kw
        have w1 : -1 ≤ wt P (cid P (ac P bw cw t)) (4 * (ac P bw cw t / pt P) + j) ∧ wt P (cid P (ac P bw cw t)) (4 * (ac P bw cw t / pt P) + j) ≤ 255 := by rcases kw with w | w; exact (by omega); exact (by rw [w.2.1]; have := (cid_b hM w.2.2.1.1 w.2.2.1.2).1; omega)
        refine V_if_lt (tgt := 124) dX11_lives_102 (by decide) ⟨by omega, by omega⟩ (fun c_3 => ?_) (fun c_3 => ?_)
        · refine V_iinc (L' := [some (.ref (a 0)), some (.int (zI t)), some (.int (zI (ac P bw cw t / pt P))), some (.int (zI ((4 * (ac P bw cw t / pt P) + j) + 1))), some (.int (zI (wt P (cid P (ac P bw cw t)) (4 * (ac P bw cw t / pt P) + j))))]) dX11_lives_124 (by decide) rfl rfl ?_
          refine V_goto (tgt := 73) dX11_lives_127 (by decide) ?_
          refine V_locE (L' := [some (.ref (a 0)), some (.int (zI t)), some (.int (zI (ac P bw cw t / pt P))), some (.int (zI (4 * (ac P bw cw t / pt P) + (j + 1)))), some (.int (zI (wt P (cid P (ac P bw cw t)) (4 * (ac P bw cw t / pt P) + j))))]) (by rw [Int.add_assoc]) ?_
          refine V_mask (L' := [some (.ref (a 0)), some (.int (zI t)), some (.int (zI (ac P bw cw t / pt P))), some (.int (zI (4 * (ac P bw cw t / pt P) + (j + 1)))), none]) [true, true, true, true, false] rfl ?_
          refine ih_73 _ (by omega) (j + 1) σ3 rfl ?_ ?_ ?_ ?_
          · omega
          · omega
          · exact hf3
          · intro k a b
            exact (he3 k a b).congr (fun x => Rm_no hj.1 (fun h => by rcases kw with w | w; exact w.2 h.1; exact (by have := (cid_b hM w.2.2.1.1 w.2.2.1.2).1; omega)))
        · have w2 : inP P (ac P bw cw t % pt P) (4 * (ac P bw cw t / pt P) + j) ∧ wt P (cid P (ac P bw cw t)) (4 * (ac P bw cw t / pt P) + j) = cid P (rdc P (ac P bw cw t % pt P) (4 * (ac P bw cw t / pt P) + j)) ∧ (0 ≤ rdc P (ac P bw cw t % pt P) (4 * (ac P bw cw t / pt P) + j) ∧ rdc P (ac P bw cw t % pt P) (4 * (ac P bw cw t / pt P) + j) < al P) := by rcases kw with w | w; exact (by omega); exact ⟨w.1, w.2.1, w.2.2.1⟩
          have w3 := he3 _ w2.2.2.1 w2.2.2.2
          have w4 : 0 ≤ σ3 19 (wt P (cid P (ac P bw cw t)) (4 * (ac P bw cw t / pt P) + j)) ∧ σ3 19 (wt P (cid P (ac P bw cw t)) (4 * (ac P bw cw t / pt P) + j)) ≤ al P := by
            rw [w2.2.1]
            have b1 := bt_b (bw := bw) (cw := cw) w2.2.2.1 w2.2.2.2
            have b2 : bt P bw cw (rdc P (ac P bw cw t % pt P) (4 * (ac P bw cw t / pt P) + j)) ≤ eb P bw cw (rdc P (ac P bw cw t % pt P) (4 * (ac P bw cw t / pt P) + j)) ∧ eb P bw cw (rdc P (ac P bw cw t % pt P) (4 * (ac P bw cw t / pt P) + j)) ≤ al P := by unfold eb; split <;> omega
            refine ⟨by have := w3.1; omega, ?_⟩
            rcases w3.2.2 with h | ⟨x, h, r⟩
            · omega
            · have := h.2.1; omega
          refine V_aload_n dX11_lives_105 rfl ?_
          refine mg_end rfl dX11_lives_106 ?_
          refine V_iload dX11_lives_109 rfl ?_
          refine ml_end ⟨by omega, by omega⟩ dX11_lives_111 ?_
          refine V_iload_n dX11_lives_112 rfl ?_
          refine V_icmp_ge (tgt := 124) dX11_lives_113 (by decide) ⟨⟨by omega, by omega⟩, ⟨by omega, by omega⟩⟩ (fun c_4 => ?_) (fun c_4 => ?_)
          · refine V_iinc (L' := [some (.ref (a 0)), some (.int (zI t)), some (.int (zI (ac P bw cw t / pt P))), some (.int (zI ((4 * (ac P bw cw t / pt P) + j) + 1))), some (.int (zI (wt P (cid P (ac P bw cw t)) (4 * (ac P bw cw t / pt P) + j))))]) dX11_lives_124 (by decide) rfl rfl ?_
            refine V_goto (tgt := 73) dX11_lives_127 (by decide) ?_
            refine V_locE (L' := [some (.ref (a 0)), some (.int (zI t)), some (.int (zI (ac P bw cw t / pt P))), some (.int (zI (4 * (ac P bw cw t / pt P) + (j + 1)))), some (.int (zI (wt P (cid P (ac P bw cw t)) (4 * (ac P bw cw t / pt P) + j))))]) (by rw [Int.add_assoc]) ?_
            refine V_mask (L' := [some (.ref (a 0)), some (.int (zI t)), some (.int (zI (ac P bw cw t / pt P))), some (.int (zI (4 * (ac P bw cw t / pt P) + (j + 1)))), none]) [true, true, true, true, false] rfl ?_
            refine ih_73 _ (by omega) (j + 1) σ3 rfl ?_ ?_ ?_ ?_
            · omega
            · omega
            · exact hf3
            · intro k a b
              by_cases e : rdc P (ac P bw cw t % pt P) (4 * (ac P bw cw t / pt P) + j) = k
              · exact (he3 k a b).keep (fun x => Rm_yes hj.1 ht.1 htn ⟨w2.1, e⟩) (by rw [← e, ← w2.2.1]; omega)
              · exact (he3 k a b).congr (fun x => Rm_no hj.1 (fun h => e h.2))
          · refine V_aload_n dX11_lives_116 rfl ?_
            refine mg_end rfl dX11_lives_117 ?_
            refine V_iload dX11_lives_120 rfl ?_
            refine V_iload_n dX11_lives_122 rfl ?_
            refine ms_end ⟨by omega, by omega⟩ dX11_lives_123 ?_
            refine V_iinc (L' := [some (.ref (a 0)), some (.int (zI t)), some (.int (zI (ac P bw cw t / pt P))), some (.int (zI ((4 * (ac P bw cw t / pt P) + j) + 1))), some (.int (zI (wt P (cid P (ac P bw cw t)) (4 * (ac P bw cw t / pt P) + j))))]) dX11_lives_124 (by decide) rfl rfl ?_
            refine V_goto (tgt := 73) dX11_lives_127 (by decide) ?_
            refine V_locE (L' := [some (.ref (a 0)), some (.int (zI t)), some (.int (zI (ac P bw cw t / pt P))), some (.int (zI (4 * (ac P bw cw t / pt P) + (j + 1)))), some (.int (zI (wt P (cid P (ac P bw cw t)) (4 * (ac P bw cw t / pt P) + j))))]) (by rw [Int.add_assoc]) ?_
            refine V_mask (L' := [some (.ref (a 0)), some (.int (zI t)), some (.int (zI (ac P bw cw t / pt P))), some (.int (zI (4 * (ac P bw cw t / pt P) + (j + 1)))), none]) [true, true, true, true, false] rfl ?_
            refine ih_73 _ (by omega) (j + 1) (up σ3 19 (wt P (cid P (ac P bw cw t)) (4 * (ac P bw cw t / pt P) + j)) t) rfl ?_ ?_ ?_ ?_
            · omega
            · omega
            · exact hf3.upd (by decide)
            · intro k a b
              rw [up_eq, w2.2.1]
              by_cases e : rdc P (ac P bw cw t % pt P) (4 * (ac P bw cw t / pt P) + j) = k
              · rw [← e, fup_eq]
                exact w3.up (fun x => Rm_yes hj.1 ht.1 htn ⟨w2.1, rfl⟩) (by rw [← w2.2.1]; omega)
              · rw [fup_ne (fun z => e (cid_inj hM w2.2.2.1 w2.2.2.2 a b z.symm))]
                exact (he3 k a b).congr (fun x => Rm_no hj.1 (fun h => e h.2))
    have seg_73 : ∀ (j : Int) (σ3 : St), (t < al P) → (0 ≤ j ∧ j ≤ P 4 (ac P bw cw t / pt P)) → (fr [19] σ σ3) → (∀ k, 0 ≤ k → k < al P → EndS (Rm P bw cw t j k) (eb P bw cw k) (σ3 19 (cid P k))) → V K sX11_lives 0 0 (mW a σ3) [some (.ref (a 0)), some (.int (zI t)), some (.int (zI (ac P bw cw t / pt P))), some (.int (zI (4 * (ac P bw cw t / pt P) + j))), none] [] 73 := fun j σ3 htn hj hf3 he3 => loop_73 _ j σ3 rfl htn hj hf3 he3
    refine V_iload_n dX11_lives_51 rfl ?_
    refine V_aload_n dX11_lives_52 rfl ?_
    refine V_callVF (As := []) (b := a 0) (hb := (show (mW a σ1)[0]? = some (a 0, .inr (10, mF a σ1)) from rfl)) (hc := (show vwCl[10]? = some (RX11, TX11, 30) from rfl)) hK (c_all hE a σ1 P ⟨hM, hP1⟩) mokX11_all w1211 w1213 wps1_13 ⟨Nat.le_of_ble_eq_true rfl, Nat.le_of_ble_eq_true rfl⟩ rfl (Nat.le_of_ble_eq_true rfl) ⟨Nat.le_refl _, Nat.le_refl _⟩ dX11_lives_53 (fun v w p_5 => ?_)
    obtain ⟨rfl, rfl⟩ := p_5
    show V K sX11_lives 0 0 (mW a σ1) _ [.int (zI (al P)), .int (zI t)] 56
    refine V_icmp_ge (tgt := 136) dX11_lives_56 (by decide) ⟨⟨by omega, by omega⟩, ⟨by omega, by omega⟩⟩ (fun c_6 => ?_) (fun c_6 => ?_)
    · refine V_vret hR rfl (Nat.le_refl _) (Nat.le_refl _) dX11_lives_136 ?_
      exact ⟨σ1, rfl, rfl, hf, fun k a b => en_eq ((he k a b).congr (fun x => by rw [show t = al P by omega]; exact Rm_end))⟩
    · have ka := hD.at ht.1 (show t < al P by omega)
      have kc := ac_spec (bw := bw) (cw := cw) ht.1 (show t < al P by omega)
      have kd := cid_b hM kc.1 kc.2.1
      have ke := cell_st hM kc.1 kc.2.1
      have q4 := (hM.2.2.2.2.2.1 (ac P bw cw t / pt P) (by omega) (by omega)).2.1
      refine V_aload_n dX11_lives_59 rfl ?_
      refine mg_cellAt rfl dX11_lives_60 ?_
      refine V_iload_n dX11_lives_63 rfl ?_
      refine ml_cellAt ⟨by omega, by omega⟩ dX11_lives_64 ?_
      refine V_eqT (y := zI (cid P (ac P bw cw t))) (by rw [e18, ka]) ?_
      refine V_bipush dX11_lives_65 (by decide) ?_
      refine V_idiv dX11_lives_67 ⟨⟨by omega, by omega⟩, ⟨by omega, by omega⟩, by omega, by omega⟩ ?_
      refine V_eqT (y := zI (ac P bw cw t / pt P)) (by rw [kd.2.1]) ?_
      refine V_istore_n (L' := [some (.ref (a 0)), some (.int (zI t)), some (.int (zI (ac P bw cw t / pt P))), none, none]) dX11_lives_68 (by decide) rfl ?_
      refine V_iconst dX11_lives_69 ?_
      refine V_iload_n dX11_lives_70 rfl ?_
      refine V_imul dX11_lives_71 ?_
      refine V_eqT (y := zI (4 * (ac P bw cw t / pt P) + 0)) (by rw [Int.add_zero]) ?_
      refine V_istore_n (L' := [some (.ref (a 0)), some (.int (zI t)), some (.int (zI (ac P bw cw t / pt P))), some (.int (zI (4 * (ac P bw cw t / pt P) + 0))), none]) dX11_lives_72 (by decide) rfl ?_
      refine seg_73 0 σ1 ?_ ?_ ?_ ?_
      · omega
      · omega
      · exact hf
      · exact he
  have seg_51 : ∀ (t : Int) (σ1 : St), (0 ≤ t ∧ t ≤ al P) → (fr [19] σ σ1) → (∀ k, 0 ≤ k → k < al P → EndS (Rm P bw cw t 0 k) (eb P bw cw k) (σ1 19 (cid P k))) → V K sX11_lives 0 0 (mW a σ1) [some (.ref (a 0)), some (.int (zI t)), none, none, none] [] 51 := fun t σ1 ht hf he => loop_51 _ t σ1 rfl ht hf he
  have loop_2 : ∀ (n0 : Nat) (t : Int) (σ1 : St), (al P - t).toNat = n0 → (0 ≤ t ∧ t ≤ al P) → (fr [19] σ σ1) → (∀ x, 0 ≤ x → x < t → σ1 19 (cid P (ac P bw cw x)) = eb P bw cw (ac P bw cw x)) → V K sX11_lives 0 0 (mW a σ1) [some (.ref (a 0)), some (.int (zI t)), none, none, none] [] 2 := by
    intro n0
    induction n0 using Nat.strongRecOn with
    | _ n0 ih_2 =>
    intro t σ1 hm_2 ht hf he
    have hP1 : PR P σ1 := hP.fr hf (by decide)
    have e18 : σ1 18 = σ 18 := hf 18 (by decide)
    have g9 : ∀ i, σ1 9 i = P 9 i := fun i => by rw [hP1 9 (by decide) (by decide)]
    have g4 : ∀ i, σ1 4 i = P 4 i := fun i => by rw [hP1 4 (by decide) (by decide)]
    refine V_iload_n dX11_lives_2 rfl ?_
    refine V_aload_n dX11_lives_3 rfl ?_
    refine V_callVF (As := []) (b := a 0) (hb := (show (mW a σ1)[0]? = some (a 0, .inr (10, mF a σ1)) from rfl)) (hc := (show vwCl[10]? = some (RX11, TX11, 30) from rfl)) hK (c_all hE a σ1 P ⟨hM, hP1⟩) mokX11_all w1211 w1213 wps1_13 ⟨Nat.le_of_ble_eq_true rfl, Nat.le_of_ble_eq_true rfl⟩ rfl (Nat.le_of_ble_eq_true rfl) ⟨Nat.le_refl _, Nat.le_refl _⟩ dX11_lives_4 (fun v w p_7 => ?_)
    obtain ⟨rfl, rfl⟩ := p_7
    show V K sX11_lives 0 0 (mW a σ1) _ [.int (zI (al P)), .int (zI t)] 7
    refine V_icmp_ge (tgt := 49) dX11_lives_7 (by decide) ⟨⟨by omega, by omega⟩, ⟨by omega, by omega⟩⟩ (fun c_8 => ?_) (fun c_8 => ?_)
    · refine V_iconst dX11_lives_49 ?_
      refine V_istore_n (L' := [some (.ref (a 0)), some (.int (zI 0)), none, none, none]) dX11_lives_50 (by decide) rfl ?_
      refine seg_51 0 σ1 ?_ ?_ ?_
      · omega
      · exact hf
      · intro k a b
        have := bt_b (bw := bw) (cw := cw) a b
        have h := he (bt P bw cw k) this.1 (by omega)
        rw [ac_bt a b] at h
        rw [h]
        exact EndS.none (fun x => Rm_0)
    · have ka := hD.at ht.1 (show t < al P by omega)
      have kc := ac_spec (bw := bw) (cw := cw) ht.1 (show t < al P by omega)
      have kd := cid_b hM kc.1 kc.2.1
      have ke := cell_st hM kc.1 kc.2.1
      have q9 := (hM.2.2.2.2.2.1 (ac P bw cw t / pt P) (by omega) (by omega)).2.2.1
      refine V_aload_n dX11_lives_10 rfl ?_
      refine mg_cellAt rfl dX11_lives_11 ?_
      refine V_iload_n dX11_lives_14 rfl ?_
      refine ml_cellAt ⟨by omega, by omega⟩ dX11_lives_15 ?_
      refine V_eqT (y := zI (cid P (ac P bw cw t))) (by rw [e18, ka]) ?_
      refine V_istore_n (L' := [some (.ref (a 0)), some (.int (zI t)), some (.int (zI (cid P (ac P bw cw t)))), none, none]) dX11_lives_16 (by decide) rfl ?_
      refine V_aload_n dX11_lives_17 rfl ?_
      refine mg_end rfl dX11_lives_18 ?_
      refine V_iload_n dX11_lives_21 rfl ?_
      refine V_aload_n dX11_lives_22 rfl ?_
      refine mg_isLasting rfl dX11_lives_23 ?_
      refine V_iload_n dX11_lives_26 rfl ?_
      refine V_bipush dX11_lives_27 (by decide) ?_
      refine V_idiv dX11_lives_29 ⟨⟨by omega, by omega⟩, ⟨by omega, by omega⟩, by omega, by omega⟩ ?_
      refine ml_isLasting ⟨by omega, by omega⟩ dX11_lives_30 ?_
      refine V_eqT (y := zI (P 9 (ac P bw cw t / pt P))) (by rw [g9, kd.2.1]) ?_
      refine V_if_eq (tgt := 41) dX11_lives_31 (by decide) ⟨by omega, by omega⟩ (fun c_9 => ?_) (fun c_9 => ?_)
      · refine V_iload_n dX11_lives_41 rfl ?_
        refine ms_end ⟨by omega, by omega⟩ dX11_lives_42 ?_
        refine V_iinc (L' := [some (.ref (a 0)), some (.int (zI (t + 1))), some (.int (zI (cid P (ac P bw cw t)))), none, none]) dX11_lives_43 (by decide) rfl rfl ?_
        refine V_goto (tgt := 2) dX11_lives_46 (by decide) ?_
        refine V_mask (L' := [some (.ref (a 0)), some (.int (zI (t + 1))), none, none, none]) [true, true, false, false, false] rfl ?_
        refine ih_2 _ (by omega) (t + 1) (up σ1 19 (cid P (ac P bw cw t)) t) rfl ?_ ?_ ?_
        · omega
        · exact hf.upd (by decide)
        · intro x a b
          rw [up_eq]
          by_cases e : x = t
          · rw [e, fup_eq, eb, if_pos c_9, kc.2.2]
          · have := ac_spec (bw := bw) (cw := cw) a (show x < al P by omega)
            rw [fup_ne (fun z => e (by have h := cid_inj hM this.1 this.2.1 kc.1 kc.2.1 z; have h2 := congrArg (bt P bw cw) h; omega))]; exact he x a (by omega)
      · refine V_aload_n dX11_lives_34 rfl ?_
        refine V_callVF (As := []) (b := a 0) (hb := (show (mW a σ1)[0]? = some (a 0, .inr (10, mF a σ1)) from rfl)) (hc := (show vwCl[10]? = some (RX11, TX11, 30) from rfl)) hK (c_all hE a σ1 P ⟨hM, hP1⟩) mokX11_all w1211 w1213 wps1_13 ⟨Nat.le_of_ble_eq_true rfl, Nat.le_of_ble_eq_true rfl⟩ rfl (Nat.le_of_ble_eq_true rfl) ⟨Nat.le_refl _, Nat.le_refl _⟩ dX11_lives_35 (fun v w p_10 => ?_)
        obtain ⟨rfl, rfl⟩ := p_10
        show V K sX11_lives 0 0 (mW a σ1) _ [.int (zI (al P)), .int (zI (cid P (ac P bw cw t))), .ref (a 19)] 38
        refine V_goto (tgt := 42) dX11_lives_38 (by decide) ?_
        refine ms_end ⟨by omega, by omega⟩ dX11_lives_42 ?_
        refine V_iinc (L' := [some (.ref (a 0)), some (.int (zI (t + 1))), some (.int (zI (cid P (ac P bw cw t)))), none, none]) dX11_lives_43 (by decide) rfl rfl ?_
        refine V_goto (tgt := 2) dX11_lives_46 (by decide) ?_
        refine V_mask (L' := [some (.ref (a 0)), some (.int (zI (t + 1))), none, none, none]) [true, true, false, false, false] rfl ?_
        refine ih_2 _ (by omega) (t + 1) (up σ1 19 (cid P (ac P bw cw t)) (al P)) rfl ?_ ?_ ?_
        · omega
        · exact hf.upd (by decide)
        · intro x a b
          rw [up_eq]
          by_cases e : x = t
          · rw [e, fup_eq, eb, if_neg c_9]
          · have := ac_spec (bw := bw) (cw := cw) a (show x < al P by omega)
            rw [fup_ne (fun z => e (by have h := cid_inj hM this.1 this.2.1 kc.1 kc.2.1 z; have h2 := congrArg (bt P bw cw) h; omega))]; exact he x a (by omega)
  have seg_2 : ∀ (t : Int) (σ1 : St), (0 ≤ t ∧ t ≤ al P) → (fr [19] σ σ1) → (∀ x, 0 ≤ x → x < t → σ1 19 (cid P (ac P bw cw x)) = eb P bw cw (ac P bw cw x)) → V K sX11_lives 0 0 (mW a σ1) [some (.ref (a 0)), some (.int (zI t)), none, none, none] [] 2 := fun t σ1 ht hf he => loop_2 _ t σ1 rfl ht hf he
  refine V_iconst dX11_lives_0 ?_
  refine V_istore_n (L' := [some (.ref (a 0)), some (.int (zI 0)), none, none, none]) dX11_lives_1 (by decide) rfl ?_
  refine seg_2 0 σ ?_ ?_ ?_
  · omega
  · exact fr.rf _ _
  · intro x a b; omega
set_option maxRecDepth 100000 in
set_option maxHeartbeats 4000000 in
theorem c_finds {E : EV} (hE : Stb E) (a : Nat → Nat) (σ : St) (P : St) (hp : MI P ∧ PR P σ) : MC E yX11_finds sX11_finds [.ref (a 0)] (mW a σ) (fun v w => ∃ σ2 : St, v = none ∧ w = mW a σ2 ∧ (fr [16, 17, 18, 19] σ σ2) ∧ (Dealt P (P 0 11) (P 0 12) σ2) ∧ (Lived P (P 0 11) (P 0 12) σ2)) := by
  refine MC.of hE [some (.ref (a 0))] 0 rfl rfl rfl (by simp [Value.category]) (Nat.le_of_ble_eq_true rfl) (fun K hK hR => ?_)
  obtain ⟨hM, hP⟩ := hp
  have e0 := hP 0 (by decide) (by decide)
  have f0 : ∀ i, σ 0 i = P 0 i := fun i => by rw [e0]
  have mR := hM.1
  have mC := hM.2.1
  have mN := hM.2.2.1
  have mp := hM.pts
  have ma := hM.als
  have gR := f0 0
  have gC := f0 1
  have gN := f0 2
  refine V_aload_n dX11_finds_0 rfl ?_
  refine V_callVF (As := []) (b := a 0) (hb := (show (mW a σ)[0]? = some (a 0, .inr (10, mF a σ)) from rfl)) (hc := (show vwCl[10]? = some (RX11, TX11, 30) from rfl)) hK (c_orders hE a σ P ⟨hM, hP⟩) mokX11_orders w1263 w1265 wps2_6 ⟨Nat.le_of_ble_eq_true rfl, Nat.le_of_ble_eq_true rfl⟩ rfl (Nat.le_of_ble_eq_true rfl) ⟨Nat.le_refl _, Nat.le_refl _⟩ dX11_finds_1 (fun v w p_1 => ?_)
  obtain ⟨σ_2, rfl, rfl, q_3, q_4⟩ := p_1
  show V K sX11_finds 0 0 (mW a σ_2) _ [] 4
  refine V_aload_n dX11_finds_4 rfl ?_
  refine V_callVF (As := []) (b := a 0) (hb := (show (mW a σ_2)[0]? = some (a 0, .inr (10, mF a σ_2)) from rfl)) (hc := (show vwCl[10]? = some (RX11, TX11, 30) from rfl)) hK (c_lives hE a σ_2 P (P 0 11) (P 0 12) ⟨hM, (hP.fr q_3 (by decide)), q_4⟩) mokX11_lives w1299 w1301 wps2_10 ⟨Nat.le_of_ble_eq_true rfl, Nat.le_of_ble_eq_true rfl⟩ rfl (Nat.le_of_ble_eq_true rfl) ⟨Nat.le_refl _, Nat.le_refl _⟩ dX11_finds_5 (fun v w p_5 => ?_)
  obtain ⟨σ_6, rfl, rfl, q_7, q_8⟩ := p_5
  show V K sX11_finds 0 0 (mW a σ_6) _ [] 8
  refine V_vret hR rfl (Nat.le_refl _) (Nat.le_refl _) dX11_finds_8 ?_
  exact ⟨_, rfl, rfl, fr.tr (q_3.mono (by decide)) (q_7.mono (by decide)), ⟨fun k a b => by rw [q_7 17 (by decide)]; exact q_4.1 k a b, fun k a b => by rw [q_7 18 (by decide)]; exact q_4.2 k a b⟩, q_8⟩

set_option maxRecDepth 100000 in
set_option maxHeartbeats 4000000 in
theorem c_wanted {E : EV} (hE : Stb E) (a : Nat → Nat) (σ : St) (cell : Int) (read : Int) (P : St) (hp : MI P ∧ PR P σ ∧ (0 ≤ cell ∧ cell ≤ 255) ∧ (0 ≤ read ∧ read ≤ 15) ∧ (0 ≤ P 5 read ∧ P 5 read ≤ 3) ∧ (0 ≤ P 7 read ∧ P 7 read ≤ 3) ∧ (-3 ≤ P 8 read ∧ P 8 read ≤ 3)) : MC E yX11_wanted sX11_wanted [.ref (a 0), .int (zI cell), .int (zI read)] (mW a σ) (fun v w => v = some (.int (zI (wt P cell read))) ∧ w = mW a σ) := by
  refine MC.of hE [some (.ref (a 0)), some (.int (zI cell)), some (.int (zI read)), none, none] 2 rfl rfl rfl (by simp [Value.category]) (Nat.le_of_ble_eq_true rfl) (fun K hK hR => ?_)
  obtain ⟨hM, hP, hp⟩ := hp
  have e0 := hP 0 (by decide) (by decide)
  have f0 : ∀ i, σ 0 i = P 0 i := fun i => by rw [e0]
  have mR := hM.1
  have mC := hM.2.1
  have mN := hM.2.2.1
  have mp := hM.pts
  have ma := hM.als
  have gR := f0 0
  have gC := f0 1
  have gN := f0 2
  obtain ⟨h1, h2, h3, h4, h5⟩ := hp
  have g5 : σ 5 read = P 5 read := by rw [hP 5 (by decide) (by decide)]
  have g7 : σ 7 read = P 7 read := by rw [hP 7 (by decide) (by decide)]
  have g8 : σ 8 read = P 8 read := by rw [hP 8 (by decide) (by decide)]
  have b1 := Int.emod_nonneg (cell % 64) (show P 0 1 ≠ 0 by omega)
  have b2 := Int.emod_lt_of_pos (cell % 64) (show 0 < P 0 1 by omega)
  have b3 := Int.ediv_nonneg (show 0 ≤ cell % 64 by omega) (show 0 ≤ P 0 1 by omega)
  have b4 := Int.ediv_le_self (P 0 1) (show 0 ≤ cell % 64 by omega)
  refine V_aload_n dX11_wanted_0 rfl ?_
  refine V_iload_n dX11_wanted_1 rfl ?_
  refine V_callVF (As := [.int (zI cell)]) (b := a 0) (hb := (show (mW a σ)[0]? = some (a 0, .inr (10, mF a σ)) from rfl)) (hc := (show vwCl[10]? = some (RX11, TX11, 30) from rfl)) hK (c_row hE a σ cell P ⟨hM, hP, by refine ⟨?_, ?_⟩ <;> (try refine ⟨?_, ?_⟩) <;> omega⟩) mokX11_row w1219 w1221 wps1_15 ⟨Nat.le_of_ble_eq_true rfl, Nat.le_of_ble_eq_true rfl⟩ rfl (Nat.le_of_ble_eq_true rfl) ⟨Nat.le_refl _, Nat.le_refl _⟩ dX11_wanted_2 (fun v w p_1 => ?_)
  obtain ⟨rfl, rfl⟩ := p_1
  show V K sX11_wanted 0 0 (mW a σ) _ [.int (zI (cell % 64 / P 0 1))] 5
  refine V_aload_n dX11_wanted_5 rfl ?_
  refine mg_rowsBack rfl dX11_wanted_6 ?_
  refine V_iload_n dX11_wanted_9 rfl ?_
  refine ml_rowsBack ⟨by omega, by omega⟩ dX11_wanted_10 ?_
  refine V_isub dX11_wanted_11 ?_
  have w1 : wi P (cell % 64) read = cell % 64 / P 0 1 - P 7 read := rfl
  refine V_eqT (y := zI (wi P (cell % 64) read)) (by rw [g7]; rfl) ?_
  refine V_istore_n (L' := [some (.ref (a 0)), some (.int (zI cell)), some (.int (zI read)), some (.int (zI (wi P (cell % 64) read))), none]) dX11_wanted_12 (by decide) rfl ?_
  refine V_aload_n dX11_wanted_13 rfl ?_
  refine V_iload_n dX11_wanted_14 rfl ?_
  refine V_callVF (As := [.int (zI cell)]) (b := a 0) (hb := (show (mW a σ)[0]? = some (a 0, .inr (10, mF a σ)) from rfl)) (hc := (show vwCl[10]? = some (RX11, TX11, 30) from rfl)) hK (c_column hE a σ cell P ⟨hM, hP, by refine ⟨?_, ?_⟩ <;> (try refine ⟨?_, ?_⟩) <;> omega⟩) mokX11_column w1223 w1225 wps2_0 ⟨Nat.le_of_ble_eq_true rfl, Nat.le_of_ble_eq_true rfl⟩ rfl (Nat.le_of_ble_eq_true rfl) ⟨Nat.le_refl _, Nat.le_refl _⟩ dX11_wanted_15 (fun v w p_2 => ?_)
  obtain ⟨rfl, rfl⟩ := p_2
  show V K sX11_wanted 0 0 (mW a σ) _ [.int (zI (cell % 64 % P 0 1))] 18
  refine V_aload_n dX11_wanted_18 rfl ?_
  refine mg_columnsBack rfl dX11_wanted_19 ?_
  refine V_iload_n dX11_wanted_22 rfl ?_
  refine ml_columnsBack ⟨by omega, by omega⟩ dX11_wanted_23 ?_
  refine V_isub dX11_wanted_24 ?_
  have w2 : wj P (cell % 64) read = cell % 64 % P 0 1 - P 8 read := rfl
  refine V_eqT (y := zI (wj P (cell % 64) read)) (by rw [g8]; rfl) ?_
  refine V_istore (L' := [some (.ref (a 0)), some (.int (zI cell)), some (.int (zI read)), some (.int (zI (wi P (cell % 64) read))), some (.int (zI (wj P (cell % 64) read)))]) dX11_wanted_25 (by decide) rfl ?_
  refine V_aload_n dX11_wanted_27 rfl ?_
  refine V_iload_n dX11_wanted_28 rfl ?_
  refine V_iload dX11_wanted_29 rfl ?_
  refine V_callVF (As := [.int (zI (wi P (cell % 64) read)), .int (zI (wj P (cell % 64) read))]) (b := a 0) (hb := (show (mW a σ)[0]? = some (a 0, .inr (10, mF a σ)) from rfl)) (hc := (show vwCl[10]? = some (RX11, TX11, 30) from rfl)) hK (c_isPoint hE a σ (wi P (cell % 64) read) (wj P (cell % 64) read) P ⟨hM, hP, by refine ⟨?_, ?_⟩ <;> (try refine ⟨?_, ?_⟩) <;> omega⟩) mokX11_isPoint w1239 w1241 wps2_4 ⟨Nat.le_of_ble_eq_true rfl, Nat.le_of_ble_eq_true rfl⟩ rfl (Nat.le_of_ble_eq_true rfl) ⟨Nat.le_refl _, Nat.le_refl _⟩ dX11_wanted_31 (fun v w p_3 => ?_)
  obtain ⟨rfl, rfl⟩ := p_3
  show V K sX11_wanted 0 0 (mW a σ) _ [.int (zI (bz (decide (0 ≤ (wi P (cell % 64) read) ∧ (wi P (cell % 64) read) < P 0 0 ∧ 0 ≤ (wj P (cell % 64) read) ∧ (wj P (cell % 64) read) < P 0 1))))] 34
  refine V_ifd_eq (tgt := 53) dX11_wanted_34 (by decide) (fun c_4 => ?_) (fun c_4 => ?_)
  · refine V_iconst dX11_wanted_53 ?_
    refine V_iret hR rfl (Nat.le_refl _) (Nat.le_refl _) dX11_wanted_54 ?_
    exact ⟨ziE (by rw [wt, if_neg (show ¬ inP P (cell % 64) read from c_4)]), rfl⟩
  · refine V_aload_n dX11_wanted_37 rfl ?_
    refine V_aload_n dX11_wanted_38 rfl ?_
    refine mg_source rfl dX11_wanted_39 ?_
    refine V_iload_n dX11_wanted_42 rfl ?_
    refine ml_source ⟨by omega, by omega⟩ dX11_wanted_43 ?_
    refine V_iload_n dX11_wanted_44 rfl ?_
    refine V_iload dX11_wanted_45 rfl ?_
    refine V_callVF (As := [.int (zI (σ 5 read)), .int (zI (wi P (cell % 64) read)), .int (zI (wj P (cell % 64) read))]) (b := a 0) (hb := (show (mW a σ)[0]? = some (a 0, .inr (10, mF a σ)) from rfl)) (hc := (show vwCl[10]? = some (RX11, TX11, 30) from rfl)) hK (c_cell hE a σ (σ 5 read) (wi P (cell % 64) read) (wj P (cell % 64) read) P ⟨hM, hP⟩) mokX11_cell w1243 w1245 wps2_5 ⟨Nat.le_of_ble_eq_true rfl, Nat.le_of_ble_eq_true rfl⟩ rfl (Nat.le_of_ble_eq_true rfl) ⟨Nat.le_refl _, Nat.le_refl _⟩ dX11_wanted_47 (fun v w p_5 => ?_)
    obtain ⟨rfl, rfl⟩ := p_5
    show V K sX11_wanted 0 0 (mW a σ) _ [.int (zI (64 * (σ 5 read) + (wi P (cell % 64) read) * P 0 1 + (wj P (cell % 64) read)))] 50
    refine V_goto (tgt := 54) dX11_wanted_50 (by decide) ?_
    refine V_iret hR rfl (Nat.le_refl _) (Nat.le_refl _) dX11_wanted_54 ?_
    exact ⟨ziE (by rw [wt, if_pos (show inP P (cell % 64) read from c_4), g5, rdp]; omega), rfl⟩
set_option maxRecDepth 100000 in
set_option maxHeartbeats 4000000 in
theorem c_isInOrder {E : EV} (hE : Stb E) (a : Nat → Nat) (σ : St) (s0 : Int) (j0 : Int) (P : St) (bw cw : Int) (hp : MI P ∧ PR P σ ∧ Dealt P bw cw σ ∧ (0 ≤ s0 ∧ s0 < P 0 2) ∧ (0 ≤ j0 ∧ j0 < P 4 s0)) : MC E yX11_isInOrder sX11_isInOrder [.ref (a 0), .int (zI s0), .int (zI j0)] (mW a σ) (fun v w => v = some (.int (zI (bz (dcd (inO P bw cw s0 j0))))) ∧ w = mW a σ) := by
  refine MC.of hE [some (.ref (a 0)), some (.int (zI s0)), some (.int (zI j0)), none, none, none, none] 4 rfl rfl rfl (by simp [Value.category]) (Nat.le_of_ble_eq_true rfl) (fun K hK hR => ?_)
  obtain ⟨hM, hP, hp⟩ := hp
  have e0 := hP 0 (by decide) (by decide)
  have f0 : ∀ i, σ 0 i = P 0 i := fun i => by rw [e0]
  have mR := hM.1
  have mC := hM.2.1
  have mN := hM.2.2.1
  have mp := hM.pts
  have ma := hM.als
  have gR := f0 0
  have gC := f0 1
  have gN := f0 2
  obtain ⟨hD, hs, hj⟩ := hp
  have q1 := (hM.2.2.2.2.2.1 s0 (by omega) (by omega)).2.1
  have q2 := hM.2.2.2.2.2.2 s0 j0 (by omega) (by omega) hj.1 hj.2
  have loop_5 : ∀ (n0 : Nat) (k : Int) (b : Bool), (pt P - k).toNat = n0 → (0 ≤ k ∧ k ≤ pt P) → (b = true ↔ ∀ p, 0 ≤ p → p < k → (inP P p (4 * s0 + j0) → bt P bw cw (rdc P p (4 * s0 + j0)) < bt P bw cw (s0 * pt P + p))) → V K sX11_isInOrder 0 0 (mW a σ) [some (.ref (a 0)), some (.int (zI s0)), some (.int (zI j0)), some (.int (zI (bz b))), some (.int (zI k)), none, none] [] 5 := by
    intro n0
    induction n0 using Nat.strongRecOn with
    | _ n0 ih_5 =>
    intro k b hm_5 hk hb
    refine V_iload dX11_isInOrder_5 rfl ?_
    refine V_aload_n dX11_isInOrder_7 rfl ?_
    refine mg_rows rfl dX11_isInOrder_8 ?_
    refine V_aload_n dX11_isInOrder_11 rfl ?_
    refine mg_columns rfl dX11_isInOrder_12 ?_
    refine V_imul dX11_isInOrder_15 ?_
    refine V_eqT (y := zI (pt P)) (by rw [gR, gC]; rfl) ?_
    refine V_icmp_ge (tgt := 79) dX11_isInOrder_16 (by decide) ⟨⟨by omega, by omega⟩, ⟨by omega, by omega⟩⟩ (fun c_1 => ?_) (fun c_1 => ?_)
    · refine V_iload_n dX11_isInOrder_79 rfl ?_
      refine V_zret hR rfl (Nat.le_refl _) (Nat.le_refl _) dX11_isInOrder_80 ?_
      exact ⟨bzE (dcd_of (hb.trans ⟨fun h p a c => h p a (by omega), fun h p a c => h p a (by omega)⟩)), rfl⟩
    · have kw := wt_cases hM hs.1 hs.2 hk.1 (show k < pt P by omega) q2.1
      have kc := comp_eq hM hs.1 hs.2 hk.1 (show k < pt P by omega)
      have ks := hD.st hM hs.1 hs.2 hk.1 (show k < pt P by omega)
      have kb := bt_b (bw := bw) (cw := cw) kc.1.1 kc.1.2
      refine V_bipush dX11_isInOrder_19 (by decide) ?_
      refine V_iload_n dX11_isInOrder_21 rfl ?_
      refine V_imul dX11_isInOrder_22 ?_
      refine V_iload dX11_isInOrder_23 rfl ?_
      refine V_iadd dX11_isInOrder_25 ?_
      refine V_istore (L' := [some (.ref (a 0)), some (.int (zI s0)), some (.int (zI j0)), some (.int (zI (bz b))), some (.int (zI k)), some (.int (zI ((64 * s0) + k))), none]) dX11_isInOrder_26 (by decide) rfl ?_
      refine V_aload_n dX11_isInOrder_28 rfl ?_
      refine V_iload dX11_isInOrder_29 rfl ?_
      refine V_iconst dX11_isInOrder_31 ?_
      refine V_iload_n dX11_isInOrder_32 rfl ?_
      refine V_imul dX11_isInOrder_33 ?_
      refine V_iload_n dX11_isInOrder_34 rfl ?_
      refine V_iadd dX11_isInOrder_35 ?_
      refine V_callVF (As := [.int (zI ((64 * s0) + k)), .int (zI ((4 * s0) + j0))]) (b := a 0) (hb := (show (mW a σ)[0]? = some (a 0, .inr (10, mF a σ)) from rfl)) (hc := (show vwCl[10]? = some (RX11, TX11, 30) from rfl)) hK (c_wanted hE a σ ((64 * s0) + k) ((4 * s0) + j0) P ⟨hM, hP, by refine ⟨⟨?_, ?_⟩, ⟨?_, ?_⟩, ⟨?_, ?_⟩, ⟨?_, ?_⟩, ⟨?_, ?_⟩⟩ <;> omega⟩) mokX11_wanted w1235 w1237 wps2_3 ⟨Nat.le_of_ble_eq_true rfl, Nat.le_of_ble_eq_true rfl⟩ rfl (Nat.le_of_ble_eq_true rfl) ⟨Nat.le_refl _, Nat.le_refl _⟩ dX11_isInOrder_36 (fun v w p_2 => ?_)
      obtain ⟨rfl, rfl⟩ := p_2
      show V K sX11_isInOrder 0 0 (mW a σ) _ [.int (zI (wt P ((64 * s0) + k) ((4 * s0) + j0)))] 39
      refine V_istore (L' := [some (.ref (a 0)), some (.int (zI s0)), some (.int (zI j0)), some (.int (zI (bz b))), some (.int (zI k)), some (.int (zI ((64 * s0) + k))), some (.int (zI (wt P ((64 * s0) + k) ((4 * s0) + j0))))]) dX11_isInOrder_39 (by decide) rfl ?_
      have w1 : -1 ≤ wt P (64 * s0 + k) (4 * s0 + j0) ∧ wt P (64 * s0 + k) (4 * s0 + j0) ≤ 255 := by rcases kw with w | w; exact (by omega); exact (by rw [w.2.1]; have := (cid_b hM w.2.2.1.1 w.2.2.1.2).1; omega)
      have w2 : wt P (64 * s0 + k) (4 * s0 + j0) < 0 → ¬ inP P k (4 * s0 + j0) := fun h => by rcases kw with w | w; exact w.2; exact (by have := (cid_b hM w.2.2.1.1 w.2.2.1.2).1.1; omega)
      have w3 : 0 ≤ wt P (64 * s0 + k) (4 * s0 + j0) → inP P k (4 * s0 + j0) ∧ σ 17 (wt P (64 * s0 + k) (4 * s0 + j0)) = bt P bw cw (rdc P k (4 * s0 + j0)) ∧ (0 ≤ bt P bw cw (rdc P k (4 * s0 + j0)) ∧ bt P bw cw (rdc P k (4 * s0 + j0)) < al P) := fun h => by rcases kw with w | w; exact (by omega); exact ⟨w.1, by rw [w.2.1]; exact hD.1 _ w.2.2.1.1 w.2.2.1.2, bt_b w.2.2.1.1 w.2.2.1.2⟩
      refine V_iload_n dX11_isInOrder_41 rfl ?_
      refine V_ifb_eq (tgt := 71) dX11_isInOrder_42 (by decide) (fun c_3 => ?_) (fun c_3 => ?_)
      · refine V_iconst dX11_isInOrder_71 ?_
        refine V_istore_n (L' := [some (.ref (a 0)), some (.int (zI s0)), some (.int (zI j0)), some (.int (zI 0)), some (.int (zI k)), some (.int (zI ((64 * s0) + k))), some (.int (zI (wt P ((64 * s0) + k) ((4 * s0) + j0))))]) dX11_isInOrder_72 (by decide) rfl ?_
        refine V_iinc (L' := [some (.ref (a 0)), some (.int (zI s0)), some (.int (zI j0)), some (.int (zI 0)), some (.int (zI (k + 1))), some (.int (zI ((64 * s0) + k))), some (.int (zI (wt P ((64 * s0) + k) ((4 * s0) + j0))))]) dX11_isInOrder_73 (by decide) rfl rfl ?_
        refine V_goto (tgt := 5) dX11_isInOrder_76 (by decide) ?_
        refine V_mask (L' := [some (.ref (a 0)), some (.int (zI s0)), some (.int (zI j0)), some (.int (zI 0)), some (.int (zI (k + 1))), none, none]) [true, true, true, true, true, false, false] rfl ?_
        refine ih_5 _ (by omega) (k + 1) false rfl ?_ ?_
        · omega
        · exact ball_s hb hk.1 (by rw [c_3]; simp)
      · refine V_iload dX11_isInOrder_45 rfl ?_
        refine V_if_lt (tgt := 67) dX11_isInOrder_47 (by decide) ⟨by omega, by omega⟩ (fun c_4 => ?_) (fun c_4 => ?_)
        · refine V_iconst dX11_isInOrder_67 ?_
          refine V_goto (tgt := 72) dX11_isInOrder_68 (by decide) ?_
          refine V_istore_n (L' := [some (.ref (a 0)), some (.int (zI s0)), some (.int (zI j0)), some (.int (zI 1)), some (.int (zI k)), some (.int (zI ((64 * s0) + k))), some (.int (zI (wt P ((64 * s0) + k) ((4 * s0) + j0))))]) dX11_isInOrder_72 (by decide) rfl ?_
          refine V_iinc (L' := [some (.ref (a 0)), some (.int (zI s0)), some (.int (zI j0)), some (.int (zI 1)), some (.int (zI (k + 1))), some (.int (zI ((64 * s0) + k))), some (.int (zI (wt P ((64 * s0) + k) ((4 * s0) + j0))))]) dX11_isInOrder_73 (by decide) rfl rfl ?_
          refine V_goto (tgt := 5) dX11_isInOrder_76 (by decide) ?_
          refine V_mask (L' := [some (.ref (a 0)), some (.int (zI s0)), some (.int (zI j0)), some (.int (zI 1)), some (.int (zI (k + 1))), none, none]) [true, true, true, true, true, false, false] rfl ?_
          refine ih_5 _ (by omega) (k + 1) true rfl ?_ ?_
          · omega
          · exact ball_s hb hk.1 ⟨fun _ => ⟨c_3, fun h => absurd h (w2 c_4)⟩, fun _ => rfl⟩
        · have w4 := w3 c_4
          refine V_aload_n dX11_isInOrder_50 rfl ?_
          refine mg_step rfl dX11_isInOrder_51 ?_
          refine V_iload dX11_isInOrder_54 rfl ?_
          refine ml_step ⟨by omega, by omega⟩ dX11_isInOrder_56 ?_
          refine V_aload_n dX11_isInOrder_57 rfl ?_
          refine mg_step rfl dX11_isInOrder_58 ?_
          refine V_iload dX11_isInOrder_61 rfl ?_
          refine ml_step ⟨by omega, by omega⟩ dX11_isInOrder_63 ?_
          refine V_icmp_ge (tgt := 71) dX11_isInOrder_64 (by decide) ⟨⟨by omega, by omega⟩, ⟨by omega, by omega⟩⟩ (fun c_5 => ?_) (fun c_5 => ?_)
          · refine V_iconst dX11_isInOrder_71 ?_
            refine V_istore_n (L' := [some (.ref (a 0)), some (.int (zI s0)), some (.int (zI j0)), some (.int (zI 0)), some (.int (zI k)), some (.int (zI ((64 * s0) + k))), some (.int (zI (wt P ((64 * s0) + k) ((4 * s0) + j0))))]) dX11_isInOrder_72 (by decide) rfl ?_
            refine V_iinc (L' := [some (.ref (a 0)), some (.int (zI s0)), some (.int (zI j0)), some (.int (zI 0)), some (.int (zI (k + 1))), some (.int (zI ((64 * s0) + k))), some (.int (zI (wt P ((64 * s0) + k) ((4 * s0) + j0))))]) dX11_isInOrder_73 (by decide) rfl rfl ?_
            refine V_goto (tgt := 5) dX11_isInOrder_76 (by decide) ?_
            refine V_mask (L' := [some (.ref (a 0)), some (.int (zI s0)), some (.int (zI j0)), some (.int (zI 0)), some (.int (zI (k + 1))), none, none]) [true, true, true, true, true, false, false] rfl ?_
            refine ih_5 _ (by omega) (k + 1) false rfl ?_ ?_
            · omega
            · exact ball_s hb hk.1 ⟨fun h => (nomatch h), fun h => absurd (h.2 w4.1) (by omega)⟩
          · refine V_iconst dX11_isInOrder_67 ?_
            refine V_goto (tgt := 72) dX11_isInOrder_68 (by decide) ?_
            refine V_istore_n (L' := [some (.ref (a 0)), some (.int (zI s0)), some (.int (zI j0)), some (.int (zI 1)), some (.int (zI k)), some (.int (zI ((64 * s0) + k))), some (.int (zI (wt P ((64 * s0) + k) ((4 * s0) + j0))))]) dX11_isInOrder_72 (by decide) rfl ?_
            refine V_iinc (L' := [some (.ref (a 0)), some (.int (zI s0)), some (.int (zI j0)), some (.int (zI 1)), some (.int (zI (k + 1))), some (.int (zI ((64 * s0) + k))), some (.int (zI (wt P ((64 * s0) + k) ((4 * s0) + j0))))]) dX11_isInOrder_73 (by decide) rfl rfl ?_
            refine V_goto (tgt := 5) dX11_isInOrder_76 (by decide) ?_
            refine V_mask (L' := [some (.ref (a 0)), some (.int (zI s0)), some (.int (zI j0)), some (.int (zI 1)), some (.int (zI (k + 1))), none, none]) [true, true, true, true, true, false, false] rfl ?_
            refine ih_5 _ (by omega) (k + 1) true rfl ?_ ?_
            · omega
            · exact ball_s hb hk.1 ⟨fun _ => ⟨c_3, fun _ => by omega⟩, fun _ => rfl⟩
  have seg_5 : ∀ (k : Int) (b : Bool), (0 ≤ k ∧ k ≤ pt P) → (b = true ↔ ∀ p, 0 ≤ p → p < k → (inP P p (4 * s0 + j0) → bt P bw cw (rdc P p (4 * s0 + j0)) < bt P bw cw (s0 * pt P + p))) → V K sX11_isInOrder 0 0 (mW a σ) [some (.ref (a 0)), some (.int (zI s0)), some (.int (zI j0)), some (.int (zI (bz b))), some (.int (zI k)), none, none] [] 5 := fun k b hk hb => loop_5 _ k b rfl hk hb
  refine V_iconst dX11_isInOrder_0 ?_
  refine V_istore_n (L' := [some (.ref (a 0)), some (.int (zI s0)), some (.int (zI j0)), some (.int (zI 1)), none, none, none]) dX11_isInOrder_1 (by decide) rfl ?_
  refine V_iconst dX11_isInOrder_2 ?_
  refine V_istore (L' := [some (.ref (a 0)), some (.int (zI s0)), some (.int (zI j0)), some (.int (zI 1)), some (.int (zI 0)), none, none]) dX11_isInOrder_3 (by decide) rfl ?_
  refine seg_5 0 true ?_ ?_
  · omega
  · exact ball_0
set_option maxRecDepth 100000 in
set_option maxHeartbeats 4000000 in
theorem c_areInOrder {E : EV} (hE : Stb E) (a : Nat → Nat) (σ : St) (P : St) (bw cw : Int) (hp : MI P ∧ PR P σ ∧ Dealt P bw cw σ) : MC E yX11_areInOrder sX11_areInOrder [.ref (a 0)] (mW a σ) (fun v w => v = some (.int (zI (bz (dcd (alw P bw cw))))) ∧ w = mW a σ) := by
  refine MC.of hE [some (.ref (a 0)), none, none, none] 3 rfl rfl rfl (by simp [Value.category]) (Nat.le_of_ble_eq_true rfl) (fun K hK hR => ?_)
  obtain ⟨hM, hP, hp⟩ := hp
  have e0 := hP 0 (by decide) (by decide)
  have f0 : ∀ i, σ 0 i = P 0 i := fun i => by rw [e0]
  have mR := hM.1
  have mC := hM.2.1
  have mN := hM.2.2.1
  have mp := hM.pts
  have ma := hM.als
  have gR := f0 0
  have gC := f0 1
  have gN := f0 2
  have hD := hp
  have g4 : ∀ i, σ 4 i = P 4 i := fun i => by rw [hP 4 (by decide) (by decide)]
  have loop_4 : ∀ (n0 : Nat) (s : Int) (b : Bool), (P 0 2 - s).toNat = n0 → (0 ≤ s ∧ s ≤ P 0 2) → (b = true ↔ ∀ p, 0 ≤ p → p < s → (∀ j, 0 ≤ j → j < P 4 p → inO P bw cw p j)) → V K sX11_areInOrder 0 0 (mW a σ) [some (.ref (a 0)), some (.int (zI (bz b))), some (.int (zI s)), none] [] 4 := by
    intro n0
    induction n0 using Nat.strongRecOn with
    | _ n0 ih_4 =>
    intro s b hm_4 hs hb
    have loop_14 : ∀ (n0 : Nat) (j : Int) (c : Bool), (P 4 s - j).toNat = n0 → (s < P 0 2) → (0 ≤ j ∧ j ≤ P 4 s) → (c = true ↔ (b = true ∧ ∀ p, 0 ≤ p → p < j → inO P bw cw s p)) → V K sX11_areInOrder 0 0 (mW a σ) [some (.ref (a 0)), some (.int (zI (bz c))), some (.int (zI s)), some (.int (zI j))] [] 14 := by
      intro n0
      induction n0 using Nat.strongRecOn with
      | _ n0 ih_14 =>
      intro j c hm_14 hsn hj hc
      refine V_iload_n dX11_areInOrder_14 rfl ?_
      refine V_aload_n dX11_areInOrder_15 rfl ?_
      have q4 := (hM.2.2.2.2.2.1 s (by omega) (by omega)).2.1
      have q5 := g4 s
      refine mg_reads rfl dX11_areInOrder_16 ?_
      refine V_iload_n dX11_areInOrder_19 rfl ?_
      refine ml_reads ⟨by omega, by omega⟩ dX11_areInOrder_20 ?_
      refine V_icmp_ge (tgt := 49) dX11_areInOrder_21 (by decide) ⟨⟨by omega, by omega⟩, ⟨by omega, by omega⟩⟩ (fun c_1 => ?_) (fun c_1 => ?_)
      · refine V_iinc (L' := [some (.ref (a 0)), some (.int (zI (bz c))), some (.int (zI (s + 1))), some (.int (zI j))]) dX11_areInOrder_49 (by decide) rfl rfl ?_
        refine V_goto (tgt := 4) dX11_areInOrder_52 (by decide) ?_
        refine V_mask (L' := [some (.ref (a 0)), some (.int (zI (bz c))), some (.int (zI (s + 1))), none]) [true, true, true, false] rfl ?_
        refine ih_4 _ (by omega) (s + 1) c rfl ?_ ?_
        · omega
        · exact ball_s hb hs.1 (hc.trans (and_congr Iff.rfl ⟨fun h j a b => h j a (by omega), fun h j a b => h j a (by omega)⟩))
      · refine V_iload_n dX11_areInOrder_24 rfl ?_
        refine V_ifb_eq (tgt := 41) dX11_areInOrder_25 (by decide) (fun c_2 => ?_) (fun c_2 => ?_)
        · refine V_iconst dX11_areInOrder_41 ?_
          refine V_istore_n (L' := [some (.ref (a 0)), some (.int (zI 0)), some (.int (zI s)), some (.int (zI j))]) dX11_areInOrder_42 (by decide) rfl ?_
          refine V_iinc (L' := [some (.ref (a 0)), some (.int (zI 0)), some (.int (zI s)), some (.int (zI (j + 1)))]) dX11_areInOrder_43 (by decide) rfl rfl ?_
          refine V_goto (tgt := 14) dX11_areInOrder_46 (by decide) ?_
          refine ih_14 _ (by omega) (j + 1) false rfl ?_ ?_ ?_
          · omega
          · omega
          · exact band_s hc hj.1 (by rw [c_2]; simp)
        · refine V_aload_n dX11_areInOrder_28 rfl ?_
          refine V_iload_n dX11_areInOrder_29 rfl ?_
          refine V_iload_n dX11_areInOrder_30 rfl ?_
          refine V_callVF (As := [.int (zI s), .int (zI j)]) (b := a 0) (hb := (show (mW a σ)[0]? = some (a 0, .inr (10, mF a σ)) from rfl)) (hc := (show vwCl[10]? = some (RX11, TX11, 30) from rfl)) hK (c_isInOrder hE a σ s j P bw cw ⟨hM, hP, hD, ⟨by omega, by omega⟩, ⟨by omega, by omega⟩⟩) mokX11_isInOrder w1231 w1233 wps2_2 ⟨Nat.le_of_ble_eq_true rfl, Nat.le_of_ble_eq_true rfl⟩ rfl (Nat.le_of_ble_eq_true rfl) ⟨Nat.le_refl _, Nat.le_refl _⟩ dX11_areInOrder_31 (fun v w p_3 => ?_)
          obtain ⟨rfl, rfl⟩ := p_3
          show V K sX11_areInOrder 0 0 (mW a σ) _ [.int (zI (bz (dcd (inO P bw cw s j))))] 34
          refine V_ifc_eq (tgt := 41) dX11_areInOrder_34 (by decide) (fun c_4 => ?_) (fun c_4 => ?_)
          · refine V_iconst dX11_areInOrder_41 ?_
            refine V_istore_n (L' := [some (.ref (a 0)), some (.int (zI 0)), some (.int (zI s)), some (.int (zI j))]) dX11_areInOrder_42 (by decide) rfl ?_
            refine V_iinc (L' := [some (.ref (a 0)), some (.int (zI 0)), some (.int (zI s)), some (.int (zI (j + 1)))]) dX11_areInOrder_43 (by decide) rfl rfl ?_
            refine V_goto (tgt := 14) dX11_areInOrder_46 (by decide) ?_
            refine ih_14 _ (by omega) (j + 1) false rfl ?_ ?_ ?_
            · omega
            · omega
            · exact band_s hc hj.1 ⟨fun h => (nomatch h), fun h => absurd h.2 c_4⟩
          · refine V_iconst dX11_areInOrder_37 ?_
            refine V_goto (tgt := 42) dX11_areInOrder_38 (by decide) ?_
            refine V_istore_n (L' := [some (.ref (a 0)), some (.int (zI 1)), some (.int (zI s)), some (.int (zI j))]) dX11_areInOrder_42 (by decide) rfl ?_
            refine V_iinc (L' := [some (.ref (a 0)), some (.int (zI 1)), some (.int (zI s)), some (.int (zI (j + 1)))]) dX11_areInOrder_43 (by decide) rfl rfl ?_
            refine V_goto (tgt := 14) dX11_areInOrder_46 (by decide) ?_
            refine ih_14 _ (by omega) (j + 1) true rfl ?_ ?_ ?_
            · omega
            · omega
            · exact band_s hc hj.1 ⟨fun _ => ⟨c_2, c_4⟩, fun _ => rfl⟩
    have seg_14 : ∀ (j : Int) (c : Bool), (s < P 0 2) → (0 ≤ j ∧ j ≤ P 4 s) → (c = true ↔ (b = true ∧ ∀ p, 0 ≤ p → p < j → inO P bw cw s p)) → V K sX11_areInOrder 0 0 (mW a σ) [some (.ref (a 0)), some (.int (zI (bz c))), some (.int (zI s)), some (.int (zI j))] [] 14 := fun j c hsn hj hc => loop_14 _ j c rfl hsn hj hc
    refine V_iload_n dX11_areInOrder_4 rfl ?_
    refine V_aload_n dX11_areInOrder_5 rfl ?_
    refine mg_statements rfl dX11_areInOrder_6 ?_
    refine V_icmp_ge (tgt := 55) dX11_areInOrder_9 (by decide) ⟨⟨by omega, by omega⟩, ⟨by omega, by omega⟩⟩ (fun c_5 => ?_) (fun c_5 => ?_)
    · refine V_iload_n dX11_areInOrder_55 rfl ?_
      refine V_zret hR rfl (Nat.le_refl _) (Nat.le_refl _) dX11_areInOrder_56 ?_
      exact ⟨bzE (dcd_of (hb.trans ⟨fun h p a c => h p a (by omega), fun h p a c => h p a (by omega)⟩)), rfl⟩
    · have q4 := (hM.2.2.2.2.2.1 s (by omega) (by omega)).2.1
      refine V_iconst dX11_areInOrder_12 ?_
      refine V_istore_n (L' := [some (.ref (a 0)), some (.int (zI (bz b))), some (.int (zI s)), some (.int (zI 0))]) dX11_areInOrder_13 (by decide) rfl ?_
      refine seg_14 0 b ?_ ?_ ?_
      · omega
      · omega
      · exact ⟨fun h => ⟨h, fun p a c => absurd c (by omega)⟩, And.left⟩
  have seg_4 : ∀ (s : Int) (b : Bool), (0 ≤ s ∧ s ≤ P 0 2) → (b = true ↔ ∀ p, 0 ≤ p → p < s → (∀ j, 0 ≤ j → j < P 4 p → inO P bw cw p j)) → V K sX11_areInOrder 0 0 (mW a σ) [some (.ref (a 0)), some (.int (zI (bz b))), some (.int (zI s)), none] [] 4 := fun s b hs hb => loop_4 _ s b rfl hs hb
  refine V_iconst dX11_areInOrder_0 ?_
  refine V_istore_n (L' := [some (.ref (a 0)), some (.int (zI 1)), none, none]) dX11_areInOrder_1 (by decide) rfl ?_
  refine V_iconst dX11_areInOrder_2 ?_
  refine V_istore_n (L' := [some (.ref (a 0)), some (.int (zI 1)), some (.int (zI 0)), none]) dX11_areInOrder_3 (by decide) rfl ?_
  refine seg_4 0 true ?_ ?_
  · omega
  · exact ball_0
set_option maxRecDepth 100000 in
set_option maxHeartbeats 4000000 in
theorem c_allows {E : EV} (hE : Stb E) (a : Nat → Nat) (σ : St) (byRow : Int) (byColumn : Int) (P : St) (hp : MI P ∧ PR P σ ∧ (0 ≤ byRow ∧ byRow ≤ 9) ∧ (0 ≤ byColumn ∧ byColumn ≤ 9)) : MC E yX11_allows sX11_allows [.ref (a 0), .int (zI byRow), .int (zI byColumn)] (mW a σ) (fun v w => ∃ σ2 : St, v = some (.int (zI (bz (dcd (alw P byRow byColumn))))) ∧ w = mW a σ2 ∧ (fr [16, 17, 18] σ σ2) ∧ (Dealt P byRow byColumn σ2)) := by
  refine MC.of hE [some (.ref (a 0)), some (.int (zI byRow)), some (.int (zI byColumn))] 0 rfl rfl rfl (by simp [Value.category]) (Nat.le_of_ble_eq_true rfl) (fun K hK hR => ?_)
  obtain ⟨hM, hP, hp⟩ := hp
  have e0 := hP 0 (by decide) (by decide)
  have f0 : ∀ i, σ 0 i = P 0 i := fun i => by rw [e0]
  have mR := hM.1
  have mC := hM.2.1
  have mN := hM.2.2.1
  have mp := hM.pts
  have ma := hM.als
  have gR := f0 0
  have gC := f0 1
  have gN := f0 2
  refine V_aload_n dX11_allows_0 rfl ?_
  refine V_iload_n dX11_allows_1 rfl ?_
  refine V_iload_n dX11_allows_2 rfl ?_
  refine V_callVF (As := [.int (zI byRow), .int (zI byColumn)]) (b := a 0) (hb := (show (mW a σ)[0]? = some (a 0, .inr (10, mF a σ)) from rfl)) (hc := (show vwCl[10]? = some (RX11, TX11, 30) from rfl)) hK (c_deals hE a σ byRow byColumn P ⟨hM, hP, hp⟩) mokX11_deals w1207 w1209 wps1_12 ⟨Nat.le_of_ble_eq_true rfl, Nat.le_of_ble_eq_true rfl⟩ rfl (Nat.le_of_ble_eq_true rfl) ⟨Nat.le_refl _, Nat.le_refl _⟩ dX11_allows_3 (fun v w p_1 => ?_)
  obtain ⟨σ_2, rfl, rfl, q_3, q_4⟩ := p_1
  show V K sX11_allows 0 0 (mW a σ_2) _ [] 6
  refine V_aload_n dX11_allows_6 rfl ?_
  refine V_callVF (As := []) (b := a 0) (hb := (show (mW a σ_2)[0]? = some (a 0, .inr (10, mF a σ_2)) from rfl)) (hc := (show vwCl[10]? = some (RX11, TX11, 30) from rfl)) hK (c_areInOrder hE a σ_2 P byRow byColumn ⟨hM, (hP.fr q_3 (by decide)), q_4⟩) mokX11_areInOrder w1227 w1229 wps2_1 ⟨Nat.le_of_ble_eq_true rfl, Nat.le_of_ble_eq_true rfl⟩ rfl (Nat.le_of_ble_eq_true rfl) ⟨Nat.le_refl _, Nat.le_refl _⟩ dX11_allows_7 (fun v w p_5 => ?_)
  obtain ⟨rfl, rfl⟩ := p_5
  show V K sX11_allows 0 0 (mW a σ_2) _ [.int (zI (bz (dcd (alw P byRow byColumn))))] 10
  refine V_zret hR rfl (Nat.le_refl _) (Nat.le_refl _) dX11_allows_10 ?_
  exact ⟨σ_2, rfl, rfl, q_3, q_4⟩

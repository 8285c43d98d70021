/-! the law: a step of the program -/
theorem gd_MI {c : Prop} [Decidable c] {k : Int} {P : St} {r : SP} (hM : MI P) (h : c → MI r.2.2) : MI (gd c k P r).2.2 := by
  by_cases hc : c
  · rw [gd_t hc]; exact h hc
  · rw [gd_f hc]; exact hM
theorem last_MI {P : St} (hM : MI P) {s v : Int} (hs : inS P s) (hv : v = 0 ∨ v = 1) : MI (up P 9 s v) := by
  obtain ⟨g1, g2, g3, g4, g5, g6, g7⟩ := hM
  refine ⟨g1, g2, g3, g4, g5, fun i i0 i1 => ?_, g7⟩
  obtain ⟨a1, a2, a3, a4, a5, a6⟩ := g6 i i0 i1
  have e9 : up P 9 s v 9 i = if i = s then v else P 9 i := rfl
  refine ⟨a1, a2, ?_, a4, a5, fun z => ?_⟩
  · rw [e9]; split <;> omega
  · have z' : P 0 2 ≤ i := z
    obtain ⟨b1, b2, b3⟩ := a6 z'
    refine ⟨b1, ?_, b3⟩
    rw [e9, if_neg (fun e => by have := hs.2; omega)]
    exact b2
theorem mi_addStatement {P : St} {x : Int} (hM : MI P) : MI (sp_addStatement P x).2.2 := gd_MI hM (fun h => gd_MI hM (fun h2 => as_MI hM rfl (by have := hM.2.2.1; omega) h))
theorem mi_addRead {P : St} {s f m u l : Int} (hM : MI P) : MI (sp_addRead P s f m u l).2.2 := gd_MI hM (fun h => gd_MI hM (fun h2 => gd_MI hM (fun h3 => ar_MI hM h.1 h.2 h2 h3)))
theorem mi_dropReads {P : St} {s : Int} (hM : MI P) : MI (sp_dropReads P s).2.2 := gd_MI hM (fun h => dr_MI hM)
theorem LR.dump {P τ : St} (h : LR P τ) {v : Int} : LR P (up τ 1 28 v) := by
  obtain ⟨a, b, c, d⟩ := h
  have e : ∀ i, i ≠ 28 → up τ 1 28 v 1 i = τ 1 i := fun i hi => fup_ne hi
  refine ⟨a, b, fun s a0 a1 => ?_, d⟩
  rw [e s (by omega), e (4 + s) (by omega), e (8 + s) (by omega), e (12 + s) (by omega), e (16 + s) (by omega), e (20 + s) (by omega), e (24 + s) (by omega)]
  exact c s a0 a1
theorem LR.drop {P τ : St} (h : LR P τ) {s : Int} (hs : 0 ≤ s ∧ s < 4) : LR (up P 4 s 0) (up τ 1 (4 + s) 0) := by
  obtain ⟨a, b, c, d⟩ := h
  have e : ∀ i, up τ 1 (4 + s) 0 1 i = if i = 4 + s then 0 else τ 1 i := fun i => rfl
  have e4 : ∀ i, up P 4 s 0 4 i = if i = s then 0 else P 4 i := fun i => rfl
  refine ⟨a, b, fun i a0 a1 => ?_, fun i j a0 a1 a2 a3 => ?_⟩
  · obtain ⟨c1, c2, c3, c4, c5, c6, c7⟩ := c i a0 a1
    refine ⟨by rw [e, if_neg (by omega)]; exact c1, ?_, by rw [e, if_neg (by omega)]; exact c3, by rw [e, if_neg (by omega)]; exact c4, by rw [e, if_neg (by omega)]; exact c5, fun q => by rw [e, if_neg (by omega)]; exact c6 q, fun q => by rw [e, if_neg (by omega)]; exact c7 q⟩
    rw [e, e4]
    by_cases q : i = s
    · rw [if_pos (by omega), if_pos q]
    · rw [if_neg (by omega), if_neg q]; exact c2
  · rw [e4] at a3
    by_cases q : i = s
    · rw [if_pos q] at a3; omega
    · rw [if_neg q] at a3; exact d i j a0 a1 a2 a3
theorem LR.last {P τ : St} (h : LR P τ) {s v : Int} (hs : 0 ≤ s ∧ s < 4) : LR (up P 9 s v) (up τ 1 (8 + s) v) := by
  obtain ⟨a, b, c, d⟩ := h
  have e : ∀ i, up τ 1 (8 + s) v 1 i = if i = 8 + s then v else τ 1 i := fun i => rfl
  have e4 : ∀ i, up P 9 s v 9 i = if i = s then v else P 9 i := fun i => rfl
  refine ⟨a, b, fun i a0 a1 => ?_, d⟩
  obtain ⟨c1, c2, c3, c4, c5, c6, c7⟩ := c i a0 a1
  refine ⟨by rw [e, if_neg (by omega)]; exact c1, by rw [e, if_neg (by omega)]; exact c2, ?_, by rw [e, if_neg (by omega)]; exact c4, by rw [e, if_neg (by omega)]; exact c5, fun q => by rw [e, if_neg (by omega)]; exact c6 q, fun q => by rw [e, if_neg (by omega)]; exact c7 q⟩
  rw [e, e4]
  by_cases q : i = s
  · rw [if_pos (by omega), if_pos q]
  · rw [if_neg (by omega), if_neg q]; exact c3
theorem LR.off {P τ : St} (h : LR P τ) {s v : Int} (hs : 0 ≤ s ∧ s < 4) : LR (up P 10 s v) (up τ 1 (12 + s) v) := by
  obtain ⟨a, b, c, d⟩ := h
  have e : ∀ i, up τ 1 (12 + s) v 1 i = if i = 12 + s then v else τ 1 i := fun i => rfl
  have e4 : ∀ i, up P 10 s v 10 i = if i = s then v else P 10 i := fun i => rfl
  refine ⟨a, b, fun i a0 a1 => ?_, d⟩
  obtain ⟨c1, c2, c3, c4, c5, c6, c7⟩ := c i a0 a1
  refine ⟨by rw [e, if_neg (by omega)]; exact c1, by rw [e, if_neg (by omega)]; exact c2, by rw [e, if_neg (by omega)]; exact c3, ?_, by rw [e, if_neg (by omega)]; exact c5, fun q => by rw [e, if_neg (by omega)]; exact c6 q, fun q => by rw [e, if_neg (by omega)]; exact c7 q⟩
  rw [e, e4]
  by_cases q : i = s
  · rw [if_pos (by omega), if_pos q]
  · rw [if_neg (by omega), if_neg q]; exact c4
theorem LR.field {P τ τ2 : St} (h : LR P τ) {v w : Int} (hv : v ≤ 4 ∧ w ≤ 4) (h1 : τ2 1 = τ 1) (h2 : τ2 2 = τ 2) (h0 : τ2 0 = (up (up τ 0 0 v) 0 1 w) 0) : LR (up (up P 0 0 v) 0 1 w) τ2 := by
  obtain ⟨a, b, c, d⟩ := h
  exact ⟨by rw [h0]; exact ⟨rfl, rfl, a.2.2.1, a.2.2.2.1, a.2.2.2.2⟩, hv, by rw [h1]; exact c, by rw [h2]; exact d⟩
theorem LR.addS {P τ : St} (h : LR P τ) (hM : MI P) (h4 : P 0 2 < 4) (v : Int) : LR (up (up (up P 3 (P 0 2) v) 13 (P 0 2) 0) 0 2 (P 0 2 + 1)) (up (up (up (up τ 1 (P 0 2) v) 1 (4 + P 0 2) 0) 1 (16 + P 0 2) 0) 0 2 (P 0 2 + 1)) := by
  obtain ⟨⟨g0, g1, g2, g3, g4⟩, b, c, d⟩ := h
  have hN := hM.2.2.1
  have e : ∀ i, (up (up (up (up τ 1 (P 0 2) v) 1 (4 + P 0 2) 0) 1 (16 + P 0 2) 0) 0 2 (P 0 2 + 1)) 1 i = if i = 16 + P 0 2 then 0 else if i = 4 + P 0 2 then 0 else if i = P 0 2 then v else τ 1 i := fun i => rfl
  have e3 : ∀ i, (up (up (up P 3 (P 0 2) v) 13 (P 0 2) 0) 0 2 (P 0 2 + 1)) 3 i = if i = P 0 2 then v else P 3 i := fun i => rfl
  have e13 : ∀ i, (up (up (up P 3 (P 0 2) v) 13 (P 0 2) 0) 0 2 (P 0 2 + 1)) 13 i = if i = P 0 2 then 0 else P 13 i := fun i => rfl
  refine ⟨⟨g0, g1, rfl, g3, g4⟩, b, fun i a0 a1 => ?_, d⟩
  obtain ⟨c1, c2, c3, c4, c5, c6, c7⟩ := c i a0 a1
  have hz := (hM.2.2.2.2.2.1 i a0 a1).2.2.2.2.2
  refine ⟨?_, ?_, by rw [e, if_neg (by omega), if_neg (by omega), if_neg (by omega)]; exact c3, by rw [e, if_neg (by omega), if_neg (by omega), if_neg (by omega)]; exact c4, ?_, fun q => ?_, fun q => ?_⟩
  · rw [e, e3, if_neg (by omega), if_neg (by omega)]
    by_cases q : i = P 0 2
    · rw [if_pos q, if_pos q]
    · rw [if_neg q, if_neg q]; exact c1
  · rw [e, if_neg (by omega)]
    show _ = P 4 i
    by_cases q : i = P 0 2
    · rw [if_pos (by omega), (hz (by omega)).1]
    · rw [if_neg (by omega), if_neg (by omega)]; exact c2
  · rw [e, e13]
    by_cases q : i = P 0 2
    · rw [if_pos (by omega), if_pos q]
    · rw [if_neg (by omega), if_neg (by omega), if_neg (by omega), if_neg q]; exact c5
  · rw [e13] at q
    rw [e, if_neg (by omega), if_neg (by omega), if_neg (by omega)]
    by_cases q2 : i = P 0 2
    · rw [if_pos q2] at q; exact absurd rfl q
    · rw [if_neg q2] at q; exact c6 q
  · rw [e13] at q
    rw [e, if_neg (by omega), if_neg (by omega), if_neg (by omega)]
    by_cases q2 : i = P 0 2
    · rw [if_pos q2] at q; omega
    · rw [if_neg q2] at q; exact c7 q
theorem LR.addR {P τ : St} (h : LR P τ) {s f m u l : Int} (hs : 0 ≤ s ∧ s < 4) (h4 : 0 ≤ P 4 s ∧ P 4 s < 4) : LR (up (up (up (up (up P 5 (4 * s + P 4 s) f) 6 (4 * s + P 4 s) m) 7 (4 * s + P 4 s) u) 8 (4 * s + P 4 s) l) 4 s (P 4 s + 1)) (up (up τ 2 (4 * s + P 4 s) (((f + 8 * m) + 128 * u) + 1024 * (l + 3))) 1 (4 + s) (P 4 s + 1)) := by
  obtain ⟨a, b, c, d⟩ := h
  have e : ∀ i, (up (up τ 2 (4 * s + P 4 s) (((f + 8 * m) + 128 * u) + 1024 * (l + 3))) 1 (4 + s) (P 4 s + 1)) 1 i = if i = 4 + s then P 4 s + 1 else τ 1 i := fun i => rfl
  have e2 : ∀ i, (up (up τ 2 (4 * s + P 4 s) (((f + 8 * m) + 128 * u) + 1024 * (l + 3))) 1 (4 + s) (P 4 s + 1)) 2 i = if i = 4 * s + P 4 s then (((f + 8 * m) + 128 * u) + 1024 * (l + 3)) else τ 2 i := fun i => rfl
  have e4 : ∀ i, (up (up (up (up (up P 5 (4 * s + P 4 s) f) 6 (4 * s + P 4 s) m) 7 (4 * s + P 4 s) u) 8 (4 * s + P 4 s) l) 4 s (P 4 s + 1)) 4 i = if i = s then P 4 s + 1 else P 4 i := fun i => rfl
  have e5 : ∀ i, rde (up (up (up (up (up P 5 (4 * s + P 4 s) f) 6 (4 * s + P 4 s) m) 7 (4 * s + P 4 s) u) 8 (4 * s + P 4 s) l) 4 s (P 4 s + 1)) i = (if i = 4 * s + P 4 s then f else P 5 i) + 8 * (if i = 4 * s + P 4 s then m else P 6 i) + 128 * (if i = 4 * s + P 4 s then u else P 7 i) + 1024 * ((if i = 4 * s + P 4 s then l else P 8 i) + 3) := fun i => rfl
  refine ⟨a, b, fun i a0 a1 => ?_, fun i j a0 a1 a2 a3 => ?_⟩
  · obtain ⟨c1, c2, c3, c4, c5, c6, c7⟩ := c i a0 a1
    refine ⟨by rw [e, if_neg (by omega)]; exact c1, ?_, by rw [e, if_neg (by omega)]; exact c3, by rw [e, if_neg (by omega)]; exact c4, by rw [e, if_neg (by omega)]; exact c5, fun q => by rw [e, if_neg (by omega)]; exact c6 q, fun q => by rw [e, if_neg (by omega)]; exact c7 q⟩
    rw [e, e4]
    by_cases q : i = s
    · rw [if_pos (by omega), if_pos q]
    · rw [if_neg (by omega), if_neg q]; exact c2
  · rw [e4] at a3
    rw [e2, e5]
    by_cases q : 4 * i + j = 4 * s + P 4 s
    · rw [if_pos q, if_pos q, if_pos q, if_pos q, if_pos q]
    · rw [if_neg q, if_neg q, if_neg q, if_neg q, if_neg q]
      by_cases q2 : i = s
      · subst q2
        rw [if_pos rfl] at a3
        exact d i j a0 a1 a2 (by omega)
      · rw [if_neg q2] at a3
        exact d i j a0 a1 a2 a3
set_option maxRecDepth 100000 in
set_option maxHeartbeats 4000000 in
theorem q_isProgram (en c b : Nat → Nat) (κ τ : St) (Y : vWd) (what : Int) (one : Int) (two : Int) (P : St) (hp : MI P ∧ LR P τ ∧ CWP P κ ∧ (0 ≤ what ∧ what ≤ 11) ∧ (0 ≤ one ∧ one ≤ 60000) ∧ (0 ≤ two ∧ two ≤ 60000)) : MC (EX en) yL_isProgram tL_isProgram [.ref (c 0), .ref (b 0), .ref (b 1), .ref (b 2), .ref (b 3), .int (zI what), .int (zI one), .int (zI two)] (lW b τ (Y ++ fm (cO en c κ))) (fun v w => ∃ (c2 : Nat → Nat) (κ2 : St) (τ2 : St) (P2 : St), v = some (.int (zI (bz true))) ∧ w = (lW b τ2 (Y ++ fm (cO en c2 κ2))) ∧ (c2 0 = c 0) ∧ (MI P2) ∧ (LR P2 τ2) ∧ (CWP P2 κ2)) := by
  refine MC.of (EX.stb en) [some (.ref (c 0)), some (.ref (b 0)), some (.ref (b 1)), some (.ref (b 2)), some (.ref (b 3)), some (.int (zI what)), some (.int (zI one)), some (.int (zI two)), none, none, none, none, none, none, none, none, none] 9 rfl rfl rfl (by simp [Value.category]) (Nat.le_of_ble_eq_true rfl) (fun K hK hR => ?_)
  obtain ⟨hM, hL, hC, hp⟩ := hp
  have mR := hM.1
  have mC := hM.2.1
  have mN := hM.2.2.1
  have mp := hM.pts
  have ma := hM.als
  have mV := hM.2.2.2.1
  have mW := hM.2.2.2.2.1
  obtain ⟨hwh, hone, htwo⟩ := hp
  have hsm := hL.small hM
  have hsw : 0 ≤ one % (P 0 2 + 1) ∧ one % (P 0 2 + 1) ≤ P 0 2 := by have h1 := Int.emod_nonneg one (b := P 0 2 + 1) (by omega); have h2 := Int.emod_lt_of_pos one (b := P 0 2 + 1) (by omega); omega
  have hsrc : 0 ≤ two % (P 0 2 + 1) ∧ two % (P 0 2 + 1) ≤ P 0 2 := by have h1 := Int.emod_nonneg two (b := P 0 2 + 1) (by omega); have h2 := Int.emod_lt_of_pos two (b := P 0 2 + 1) (by omega); omega
  have seg_23 : ∀ (b1 : Bool), (b1 = true ↔ one % (P 0 2 + 1) < P 0 2) → V K tL_isProgram 0 0 (lW b τ (Y ++ fm (cO en c κ))) [some (.ref (c 0)), some (.ref (b 0)), some (.ref (b 1)), some (.ref (b 2)), some (.ref (b 3)), some (.int (zI what)), some (.int (zI one)), some (.int (zI two)), some (.int (zI (one % (P 0 2 + 1)))), none, none, none, none, none, none, none, none] [.int (zI (bz b1))] 23 := by
    intro b1 hb1
    have seg_709 : V K tL_isProgram 0 0 (lW b τ (Y ++ fm (cO en c κ))) [some (.ref (c 0)), some (.ref (b 0)), some (.ref (b 1)), some (.ref (b 2)), some (.ref (b 3)), some (.int (zI what)), some (.int (zI one)), some (.int (zI two)), some (.int (zI (one % (P 0 2 + 1)))), some (.int (zI (bz b1))), none, none, none, none, none, none, none] [] 709 := by
      have seg_728 : ∀ (off : Int), (0 ≤ off ∧ off ≤ 30) → V K tL_isProgram 0 0 (lW b τ (Y ++ fm (cO en c κ))) [some (.ref (c 0)), some (.ref (b 0)), some (.ref (b 1)), some (.ref (b 2)), some (.ref (b 3)), some (.int (zI what)), some (.int (zI one)), some (.int (zI two)), some (.int (zI (one % (P 0 2 + 1)))), some (.int (zI (bz b1))), none, none, none, none, none, none, none] [.int (zI off)] 728 := by
        intro off hoff
        refine V_istore (L' := [some (.ref (c 0)), some (.ref (b 0)), some (.ref (b 1)), some (.ref (b 2)), some (.ref (b 3)), some (.int (zI what)), some (.int (zI one)), some (.int (zI two)), some (.int (zI (one % (P 0 2 + 1)))), some (.int (zI (bz b1))), some (.int (zI off)), none, none, none, none, none, none]) dL_isProgram_728 (by decide) rfl ?_
        refine V_aload_n dL_isProgram_730 rfl ?_
        refine V_iload dL_isProgram_731 rfl ?_
        refine V_ifb_eq (tgt := 744) dL_isProgram_733 (by decide) (fun c_1 => ?_) (fun c_1 => ?_)
        · refine V_bipush dL_isProgram_744 (by decide) ?_
          refine V_iload dL_isProgram_746 rfl ?_
          refine ls_1 ⟨by omega, by omega⟩ dL_isProgram_748 ?_
          have hL_3 : LR P (up τ 1 28 off) := hL.dump
          refine V_aload_n dL_isProgram_749 rfl ?_
          refine V_aload_n dL_isProgram_750 rfl ?_
          refine V_aload dL_isProgram_751 rfl ?_
          refine V_callSF (As := [.ref (b 0), .ref (b 1), .ref (b 3)]) hK (q_steps (EX.stb en) b (up τ 1 28 off) (Y ++ fm (cO en c κ)) P ⟨hM, hL_3⟩) mokL_steps w868 w869 ⟨Nat.le_of_ble_eq_true rfl, Nat.le_of_ble_eq_true rfl⟩ rfl (Nat.le_of_ble_eq_true rfl) ⟨Nat.le_of_ble_eq_true rfl, Nat.le_of_ble_eq_true rfl⟩ dL_isProgram_753 (fun v w p_4 => ?_)
          obtain ⟨τ_5, rfl, rfl, q_6, q_7⟩ := p_4
          show V K tL_isProgram 0 0 (lW b τ_5 (Y ++ fm (cO en c κ))) _ [] 756
          refine V_aload_n dL_isProgram_756 rfl ?_
          refine V_bipush dL_isProgram_757 (by decide) ?_
          refine V_iload dL_isProgram_759 rfl ?_
          refine V_iload dL_isProgram_761 rfl ?_
          refine V_iconst dL_isProgram_763 ?_
          refine V_iconst dL_isProgram_764 ?_
          refine V_iconst dL_isProgram_765 ?_
          refine V_callSBH (As := [.ref (c 0), .int (zI 6), .int (zI (one % (P 0 2 + 1))), .int (zI off), .int (zI 0), .int (zI 0), .int (zI 0)]) (wr := (lW b τ_5 Y)) (wc := fm (cO en c κ)) rfl hK (d_6 en c κ (one % (P 0 2 + 1)) off 0 0 0 P ⟨hM, hC, ⟨by omega, by omega⟩, ⟨by omega, by omega⟩⟩) mokL_does w507 w508 ⟨Nat.le_of_ble_eq_true rfl, Nat.le_of_ble_eq_true rfl⟩ rfl (Nat.le_of_ble_eq_true rfl) ⟨Nat.le_of_ble_eq_true rfl, Nat.le_of_ble_eq_true rfl⟩ dL_isProgram_766 (fun v w p_8 => ?_)
          obtain ⟨κ_9, rfl, rfl, q_10⟩ := p_8
          show V K tL_isProgram 8 50 (lW b τ_5 (Y ++ fm (cO en c κ_9))) _ [.int (zI (dvl (-3000) (-2000) 0 (sp_setOffset P (one % (P 0 2 + 1)) off)))] 769
          have e_13 : sp_setOffset P (one % (P 0 2 + 1)) off = (1, 0, P) := gd_f (fun h => by have := hb1.mpr h.2; rw [c_1] at this; exact nomatch this)
          rw [e_13] at q_10
          refine V_eqT (y := zI (-3000)) (by rw [e_13]; rfl) ?_
          show V K tL_isProgram 8 50 (lW b τ_5 (Y ++ fm (cO en c κ_9))) _ [.int (zI (-3000))] 769
          refine V_iload dL_isProgram_769 rfl ?_
          refine V_ifb_eq (tgt := 793) dL_isProgram_771 (by decide) (fun _ => ?_) (fun c_14 => absurd (c_14.symm.trans c_1) (by decide))
          refine V_sipush dL_isProgram_793 (by decide) ?_
          refine V_icmp_ne (tgt := 803) dL_isProgram_796 (by decide) ⟨⟨by decide, by decide⟩, ⟨by decide, by decide⟩⟩ (fun h => absurd h (by decide)) (fun _ => ?_)
          refine V_iconst dL_isProgram_799 ?_
          refine V_goto (tgt := 804) dL_isProgram_800 (by decide) ?_
          show V K tL_isProgram 8 50 _ _ [.int (zI (bz true))] 804
          refine V_zret hR rfl (Nat.le_of_ble_eq_true rfl) (Nat.le_of_ble_eq_true rfl) dL_isProgram_804 ?_
          exact ⟨_, _, _, _, rfl, rfl, rfl, hM, ((hL_3).fr q_6 (by decide)), q_10⟩
        · have hs2 := hb1.mp c_1
          refine V_bipush dL_isProgram_736 (by decide) ?_
          refine V_iload dL_isProgram_738 rfl ?_
          refine V_iadd dL_isProgram_740 ?_
          refine V_goto (tgt := 746) dL_isProgram_741 (by decide) ?_
          refine V_iload dL_isProgram_746 rfl ?_
          refine ls_1 ⟨by omega, by omega⟩ dL_isProgram_748 ?_
          have hM_16 : MI (up P 10 (one % (P 0 2 + 1)) off) := hM.offset ⟨by omega, hb1.mp c_1⟩ hoff
          have hL_17 : LR (up P 10 (one % (P 0 2 + 1)) off) (up τ 1 (12 + (one % (P 0 2 + 1))) off) := hL.off ⟨by omega, by omega⟩
          refine V_aload_n dL_isProgram_749 rfl ?_
          refine V_aload_n dL_isProgram_750 rfl ?_
          refine V_aload dL_isProgram_751 rfl ?_
          refine V_callSF (As := [.ref (b 0), .ref (b 1), .ref (b 3)]) hK (q_steps (EX.stb en) b (up τ 1 (12 + (one % (P 0 2 + 1))) off) (Y ++ fm (cO en c κ)) (up P 10 (one % (P 0 2 + 1)) off) ⟨hM_16, hL_17⟩) mokL_steps w868 w869 ⟨Nat.le_of_ble_eq_true rfl, Nat.le_of_ble_eq_true rfl⟩ rfl (Nat.le_of_ble_eq_true rfl) ⟨Nat.le_of_ble_eq_true rfl, Nat.le_of_ble_eq_true rfl⟩ dL_isProgram_753 (fun v w p_18 => ?_)
          obtain ⟨τ_19, rfl, rfl, q_20, q_21⟩ := p_18
          show V K tL_isProgram 0 0 (lW b τ_19 (Y ++ fm (cO en c κ))) _ [] 756
          refine V_aload_n dL_isProgram_756 rfl ?_
          refine V_bipush dL_isProgram_757 (by decide) ?_
          refine V_iload dL_isProgram_759 rfl ?_
          refine V_iload dL_isProgram_761 rfl ?_
          refine V_iconst dL_isProgram_763 ?_
          refine V_iconst dL_isProgram_764 ?_
          refine V_iconst dL_isProgram_765 ?_
          refine V_callSBH (As := [.ref (c 0), .int (zI 6), .int (zI (one % (P 0 2 + 1))), .int (zI off), .int (zI 0), .int (zI 0), .int (zI 0)]) (wr := (lW b τ_19 Y)) (wc := fm (cO en c κ)) rfl hK (d_6 en c κ (one % (P 0 2 + 1)) off 0 0 0 P ⟨hM, hC, ⟨by omega, by omega⟩, ⟨by omega, by omega⟩⟩) mokL_does w507 w508 ⟨Nat.le_of_ble_eq_true rfl, Nat.le_of_ble_eq_true rfl⟩ rfl (Nat.le_of_ble_eq_true rfl) ⟨Nat.le_of_ble_eq_true rfl, Nat.le_of_ble_eq_true rfl⟩ dL_isProgram_766 (fun v w p_22 => ?_)
          obtain ⟨κ_23, rfl, rfl, q_24⟩ := p_22
          show V K tL_isProgram 8 50 (lW b τ_19 (Y ++ fm (cO en c κ_23))) _ [.int (zI (dvl (-3000) (-2000) 0 (sp_setOffset P (one % (P 0 2 + 1)) off)))] 769
          have e_27 : sp_setOffset P (one % (P 0 2 + 1)) off = (0, bz (dcd (alw (up P 10 (one % (P 0 2 + 1)) off) (P 0 11) (P 0 12))), up P 10 (one % (P 0 2 + 1)) off) := (gd_t ⟨by omega, hb1.mp c_1⟩).trans (gd_t ⟨by omega, by omega⟩)
          rw [e_27] at q_24
          refine V_eqT (y := zI (bz (dcd (alw (up P 10 (one % (P 0 2 + 1)) off) (P 0 11) (P 0 12))))) (by rw [e_27]; rfl) ?_
          show V K tL_isProgram 8 50 (lW b τ_19 (Y ++ fm (cO en c κ_23))) _ [.int (zI (bz (dcd (alw (up P 10 (one % (P 0 2 + 1)) off) (P 0 11) (P 0 12)))))] 769
          refine V_iload dL_isProgram_769 rfl ?_
          refine V_ifb_eq (tgt := 793) dL_isProgram_771 (by decide) (fun c_28 => absurd (c_28.symm.trans c_1) (by decide)) (fun _ => ?_)
          refine V_aload_n dL_isProgram_774 rfl ?_
          refine V_aload_n dL_isProgram_775 rfl ?_
          refine V_aload_n dL_isProgram_776 rfl ?_
          refine V_aload dL_isProgram_777 rfl ?_
          refine V_callSF (As := [.ref (b 0), .ref (b 1), .ref (b 2), .ref (b 3)]) hK (q_isAllowed (EX.stb en) b τ_19 (Y ++ fm (cO en c κ_23)) (up P 10 (one % (P 0 2 + 1)) off) ⟨hM_16, ((hL_17).fr q_20 (by decide)), q_21⟩) mokL_isAllowed w886 w887 ⟨Nat.le_of_ble_eq_true rfl, Nat.le_of_ble_eq_true rfl⟩ rfl (Nat.le_of_ble_eq_true rfl) ⟨Nat.le_of_ble_eq_true rfl, Nat.le_of_ble_eq_true rfl⟩ dL_isProgram_779 (fun v w p_29 => ?_)
          obtain ⟨rfl, rfl⟩ := p_29
          show V K tL_isProgram 8 50 (lW b τ_19 (Y ++ fm (cO en c κ_23))) _ [.int (zI (bz (dcd (alw (up P 10 (one % (P 0 2 + 1)) off) ((up P 10 (one % (P 0 2 + 1)) off) 0 11) ((up P 10 (one % (P 0 2 + 1)) off) 0 12))))), .int (zI (bz (dcd (alw (up P 10 (one % (P 0 2 + 1)) off) (P 0 11) (P 0 12)))))] 782
          refine V_ifc_eq (tgt := 789) dL_isProgram_782 (by decide) (fun c_30 => ?_) (fun c_30 => ?_)
          · refine V_iconst dL_isProgram_789 ?_
            refine V_goto (tgt := 796) dL_isProgram_790 (by decide) ?_
            refine V_icmp_ne (tgt := 803) dL_isProgram_796 (by decide) ⟨bz_iR _, ⟨by decide, by decide⟩⟩ (fun c_31 => absurd (congrArg bz (dcd_f.mpr c_30)) c_31) (fun _ => ?_)
            refine V_iconst dL_isProgram_799 ?_
            refine V_goto (tgt := 804) dL_isProgram_800 (by decide) ?_
            show V K tL_isProgram 8 50 _ _ [.int (zI (bz true))] 804
            refine V_zret hR rfl (Nat.le_of_ble_eq_true rfl) (Nat.le_of_ble_eq_true rfl) dL_isProgram_804 ?_
            exact ⟨_, _, _, _, rfl, rfl, rfl, hM_16, ((hL_17).fr q_20 (by decide)), q_24⟩
          · refine V_iconst dL_isProgram_785 ?_
            refine V_goto (tgt := 796) dL_isProgram_786 (by decide) ?_
            refine V_icmp_ne (tgt := 803) dL_isProgram_796 (by decide) ⟨bz_iR _, ⟨by decide, by decide⟩⟩ (fun c_32 => absurd (congrArg bz (dcd_t.mpr c_30)) c_32) (fun _ => ?_)
            refine V_iconst dL_isProgram_799 ?_
            refine V_goto (tgt := 804) dL_isProgram_800 (by decide) ?_
            show V K tL_isProgram 8 50 _ _ [.int (zI (bz true))] 804
            refine V_zret hR rfl (Nat.le_of_ble_eq_true rfl) (Nat.le_of_ble_eq_true rfl) dL_isProgram_804 ?_
            exact ⟨_, _, _, _, rfl, rfl, rfl, hM_16, ((hL_17).fr q_20 (by decide)), q_24⟩
      refine V_iload dL_isProgram_709 rfl ?_
      refine V_iconst dL_isProgram_711 ?_
      refine V_iremN dL_isProgram_712 ⟨⟨by omega, by omega⟩, ⟨by omega, by omega⟩, by omega, by omega⟩ ?_
      refine V_if_ne (tgt := 724) dL_isProgram_713 (by decide) ⟨by omega, by omega⟩ (fun c_33 => ?_) (fun c_33 => ?_)
      · refine V_iload dL_isProgram_724 rfl ?_
        refine V_iconst dL_isProgram_726 ?_
        refine V_iremN dL_isProgram_727 ⟨⟨by omega, by omega⟩, ⟨by omega, by omega⟩, by omega, by omega⟩ ?_
        refine seg_728 (two % 4) ?_
        · omega
      · refine V_iload dL_isProgram_716 rfl ?_
        refine V_bipush dL_isProgram_718 (by decide) ?_
        refine V_iremN dL_isProgram_720 ⟨⟨by omega, by omega⟩, ⟨by omega, by omega⟩, by omega, by omega⟩ ?_
        refine V_goto (tgt := 728) dL_isProgram_721 (by decide) ?_
        refine seg_728 (two % 31) ?_
        · omega
    have seg_615 : V K tL_isProgram 0 0 (lW b τ (Y ++ fm (cO en c κ))) [some (.ref (c 0)), some (.ref (b 0)), some (.ref (b 1)), some (.ref (b 2)), some (.ref (b 3)), some (.int (zI what)), some (.int (zI one)), some (.int (zI two)), some (.int (zI (one % (P 0 2 + 1)))), some (.int (zI (bz b1))), none, none, none, none, none, none, none] [] 615 := by
      have seg_636 : ∀ (v : Int), (0 ≤ v ∧ v ≤ 9) → V K tL_isProgram 0 0 (lW b τ (Y ++ fm (cO en c κ))) [some (.ref (c 0)), some (.ref (b 0)), some (.ref (b 1)), some (.ref (b 2)), some (.ref (b 3)), some (.int (zI what)), some (.int (zI one)), some (.int (zI two)), some (.int (zI (one % (P 0 2 + 1)))), some (.int (zI (bz b1))), none, none, none, none, none, none, none] [.int (zI v), .int (zI 3), .ref (b 0)] 636 := by
        intro v hv
        refine ls_0 ⟨by omega, by omega⟩ dL_isProgram_636 ?_
        refine V_aload_n dL_isProgram_637 rfl ?_
        refine V_iconst dL_isProgram_638 ?_
        refine V_iload dL_isProgram_639 rfl ?_
        refine V_iconst dL_isProgram_641 ?_
        refine V_idiv dL_isProgram_642 ⟨⟨by omega, by omega⟩, ⟨by omega, by omega⟩, by omega, by omega⟩ ?_
        refine V_iconst dL_isProgram_643 ?_
        refine V_iremN dL_isProgram_644 ⟨⟨by omega, by omega⟩, ⟨by omega, by omega⟩, by omega, by omega⟩ ?_
        refine ls_0 ⟨by omega, by omega⟩ dL_isProgram_645 ?_
        have hM_34 : MI (up (up P 0 11 v) 0 12 ((two / 5) % 4)) := hM.sched hv ⟨by omega, by omega⟩
        have hL_35 : LR (up (up P 0 11 v) 0 12 ((two / 5) % 4)) (up (up τ 0 3 v) 0 4 ((two / 5) % 4)) := hL.sched rfl rfl hL.g0 hL.g1 hL.g2 rfl rfl
        refine V_aload_n dL_isProgram_646 rfl ?_
        refine V_aload_n dL_isProgram_647 rfl ?_
        refine V_aload dL_isProgram_648 rfl ?_
        refine V_callSF (As := [.ref (b 0), .ref (b 1), .ref (b 3)]) hK (q_steps (EX.stb en) b (up (up τ 0 3 v) 0 4 ((two / 5) % 4)) (Y ++ fm (cO en c κ)) (up (up P 0 11 v) 0 12 ((two / 5) % 4)) ⟨hM_34, hL_35⟩) mokL_steps w868 w869 ⟨Nat.le_of_ble_eq_true rfl, Nat.le_of_ble_eq_true rfl⟩ rfl (Nat.le_of_ble_eq_true rfl) ⟨Nat.le_of_ble_eq_true rfl, Nat.le_of_ble_eq_true rfl⟩ dL_isProgram_650 (fun v w p_36 => ?_)
        obtain ⟨τ_37, rfl, rfl, q_38, q_39⟩ := p_36
        show V K tL_isProgram 0 0 (lW b τ_37 (Y ++ fm (cO en c κ))) _ [] 653
        refine V_aload_n dL_isProgram_653 rfl ?_
        refine V_iconst dL_isProgram_654 ?_
        refine V_aload_n dL_isProgram_655 rfl ?_
        refine V_iconst dL_isProgram_656 ?_
        refine ll_0 ⟨by omega, by omega⟩ dL_isProgram_657 ?_
        refine V_eqT (y := zI (up (up P 0 11 v) 0 12 ((two / 5) % 4) 0 11)) (congrArg zI (LR.g3 ((hL_35).fr q_38 (by decide)))) ?_
        refine V_eqT (y := zI v) (rfl) ?_
        refine V_aload_n dL_isProgram_658 rfl ?_
        refine V_iconst dL_isProgram_659 ?_
        refine ll_0 ⟨by omega, by omega⟩ dL_isProgram_660 ?_
        refine V_eqT (y := zI (up (up P 0 11 v) 0 12 ((two / 5) % 4) 0 12)) (congrArg zI (LR.g4 ((hL_35).fr q_38 (by decide)))) ?_
        refine V_eqT (y := zI ((two / 5) % 4)) (rfl) ?_
        refine V_iconst dL_isProgram_661 ?_
        refine V_iconst dL_isProgram_662 ?_
        refine V_iconst dL_isProgram_663 ?_
        refine V_callSBH (As := [.ref (c 0), .int (zI 5), .int (zI v), .int (zI ((two / 5) % 4)), .int (zI 0), .int (zI 0), .int (zI 0)]) (wr := (lW b τ_37 Y)) (wc := fm (cO en c κ)) rfl hK (d_5 en c κ v ((two / 5) % 4) 0 0 0 P ⟨hM, hC, ⟨by omega, by omega⟩, ⟨by omega, by omega⟩⟩) mokL_does w507 w508 ⟨Nat.le_of_ble_eq_true rfl, Nat.le_of_ble_eq_true rfl⟩ rfl (Nat.le_of_ble_eq_true rfl) ⟨Nat.le_of_ble_eq_true rfl, Nat.le_of_ble_eq_true rfl⟩ dL_isProgram_664 (fun v w p_40 => ?_)
        obtain ⟨κ_41, rfl, rfl, q_42⟩ := p_40
        show V K tL_isProgram 8 50 (lW b τ_37 (Y ++ fm (cO en c κ_41))) _ [.int (zI (dvl (-2000) 0 0 (sp_setSchedule P v ((two / 5) % 4))))] 667
        have e_45 : sp_setSchedule P v ((two / 5) % 4) = (0, bz (dcd (alw (up (up P 0 11 v) 0 12 ((two / 5) % 4)) v ((two / 5) % 4))), up (up P 0 11 v) 0 12 ((two / 5) % 4)) := gd_t ⟨⟨by omega, by omega⟩, by omega, by omega⟩
        rw [e_45] at q_42
        refine V_eqT (y := zI (bz (dcd (alw (up (up P 0 11 v) 0 12 ((two / 5) % 4)) v ((two / 5) % 4))))) (by rw [e_45]; rfl) ?_
        show V K tL_isProgram 8 50 (lW b τ_37 (Y ++ fm (cO en c κ_41))) _ [.int (zI (bz (dcd (alw (up (up P 0 11 v) 0 12 ((two / 5) % 4)) v ((two / 5) % 4)))))] 667
        refine V_aload_n dL_isProgram_667 rfl ?_
        refine V_aload_n dL_isProgram_668 rfl ?_
        refine V_aload_n dL_isProgram_669 rfl ?_
        refine V_aload dL_isProgram_670 rfl ?_
        refine V_callSF (As := [.ref (b 0), .ref (b 1), .ref (b 2), .ref (b 3)]) hK (q_isAllowed (EX.stb en) b τ_37 (Y ++ fm (cO en c κ_41)) (up (up P 0 11 v) 0 12 ((two / 5) % 4)) ⟨hM_34, ((hL_35).fr q_38 (by decide)), q_39⟩) mokL_isAllowed w886 w887 ⟨Nat.le_of_ble_eq_true rfl, Nat.le_of_ble_eq_true rfl⟩ rfl (Nat.le_of_ble_eq_true rfl) ⟨Nat.le_of_ble_eq_true rfl, Nat.le_of_ble_eq_true rfl⟩ dL_isProgram_672 (fun v w p_46 => ?_)
        obtain ⟨rfl, rfl⟩ := p_46
        show V K tL_isProgram 8 50 (lW b τ_37 (Y ++ fm (cO en c κ_41))) _ [.int (zI (bz (dcd (alw (up (up P 0 11 v) 0 12 ((two / 5) % 4)) ((up (up P 0 11 v) 0 12 ((two / 5) % 4)) 0 11) ((up (up P 0 11 v) 0 12 ((two / 5) % 4)) 0 12))))), .int (zI (bz (dcd (alw (up (up P 0 11 v) 0 12 ((two / 5) % 4)) v ((two / 5) % 4)))))] 675
        refine V_ifc_eq (tgt := 682) dL_isProgram_675 (by decide) (fun c_47 => ?_) (fun c_47 => ?_)
        · refine V_iconst dL_isProgram_682 ?_
          refine V_icmp_ne (tgt := 707) dL_isProgram_683 (by decide) ⟨bz_iR _, ⟨by decide, by decide⟩⟩ (fun c_48 => absurd (congrArg bz (dcd_f.mpr c_47)) c_48) (fun _ => ?_)
          refine V_aload_n dL_isProgram_686 rfl ?_
          refine V_iconst dL_isProgram_687 ?_
          refine V_bipush dL_isProgram_688 (by decide) ?_
          refine V_iconst dL_isProgram_690 ?_
          refine V_iconst dL_isProgram_691 ?_
          refine V_iconst dL_isProgram_692 ?_
          refine V_iconst dL_isProgram_693 ?_
          refine V_callSBH (As := [.ref (c 0), .int (zI 5), .int (zI 10), .int (zI 0), .int (zI 0), .int (zI 0), .int (zI 0)]) (wr := (lW b τ_37 Y)) (wc := fm (cO en c κ_41)) rfl hK (d_5 en c κ_41 10 0 0 0 0 (up (up P 0 11 v) 0 12 ((two / 5) % 4)) ⟨hM_34, q_42, ⟨by omega, by omega⟩, ⟨by omega, by omega⟩⟩) mokL_does w507 w508 ⟨Nat.le_of_ble_eq_true rfl, Nat.le_of_ble_eq_true rfl⟩ rfl (Nat.le_of_ble_eq_true rfl) ⟨Nat.le_of_ble_eq_true rfl, Nat.le_of_ble_eq_true rfl⟩ dL_isProgram_694 (fun v w p_49 => ?_)
          obtain ⟨κ_50, rfl, rfl, q_51⟩ := p_49
          show V K tL_isProgram 16 100 (lW b τ_37 (Y ++ fm (cO en c κ_50))) _ [.int (zI (dvl (-2000) 0 0 (sp_setSchedule (up (up P 0 11 v) 0 12 ((two / 5) % 4)) 10 0)))] 697
          have e_54 : sp_setSchedule (up (up P 0 11 v) 0 12 ((two / 5) % 4)) 10 0 = (1, 0, up (up P 0 11 v) 0 12 ((two / 5) % 4)) := gd_f (fun h => by have := h.1; omega)
          rw [e_54] at q_51
          refine V_eqT (y := zI (-2000)) (by rw [e_54]; rfl) ?_
          show V K tL_isProgram 16 100 (lW b τ_37 (Y ++ fm (cO en c κ_50))) _ [.int (zI (-2000))] 697
          refine V_sipush dL_isProgram_697 (by decide) ?_
          refine V_icmp_ne (tgt := 707) dL_isProgram_700 (by decide) ⟨⟨by decide, by decide⟩, ⟨by decide, by decide⟩⟩ (fun h => absurd h (by decide)) (fun _ => ?_)
          refine V_iconst dL_isProgram_703 ?_
          refine V_goto (tgt := 708) dL_isProgram_704 (by decide) ?_
          show V K tL_isProgram 16 100 _ _ [.int (zI (bz true))] 708
          refine V_zret hR rfl (Nat.le_of_ble_eq_true rfl) (Nat.le_of_ble_eq_true rfl) dL_isProgram_708 ?_
          exact ⟨_, _, _, _, rfl, rfl, rfl, hM_34, ((hL_35).fr q_38 (by decide)), q_51⟩
        · refine V_iconst dL_isProgram_678 ?_
          refine V_goto (tgt := 683) dL_isProgram_679 (by decide) ?_
          refine V_icmp_ne (tgt := 707) dL_isProgram_683 (by decide) ⟨bz_iR _, ⟨by decide, by decide⟩⟩ (fun c_56 => absurd (congrArg bz (dcd_t.mpr c_47)) c_56) (fun _ => ?_)
          refine V_aload_n dL_isProgram_686 rfl ?_
          refine V_iconst dL_isProgram_687 ?_
          refine V_bipush dL_isProgram_688 (by decide) ?_
          refine V_iconst dL_isProgram_690 ?_
          refine V_iconst dL_isProgram_691 ?_
          refine V_iconst dL_isProgram_692 ?_
          refine V_iconst dL_isProgram_693 ?_
          refine V_callSBH (As := [.ref (c 0), .int (zI 5), .int (zI 10), .int (zI 0), .int (zI 0), .int (zI 0), .int (zI 0)]) (wr := (lW b τ_37 Y)) (wc := fm (cO en c κ_41)) rfl hK (d_5 en c κ_41 10 0 0 0 0 (up (up P 0 11 v) 0 12 ((two / 5) % 4)) ⟨hM_34, q_42, ⟨by omega, by omega⟩, ⟨by omega, by omega⟩⟩) mokL_does w507 w508 ⟨Nat.le_of_ble_eq_true rfl, Nat.le_of_ble_eq_true rfl⟩ rfl (Nat.le_of_ble_eq_true rfl) ⟨Nat.le_of_ble_eq_true rfl, Nat.le_of_ble_eq_true rfl⟩ dL_isProgram_694 (fun v w p_57 => ?_)
          obtain ⟨κ_58, rfl, rfl, q_59⟩ := p_57
          show V K tL_isProgram 16 100 (lW b τ_37 (Y ++ fm (cO en c κ_58))) _ [.int (zI (dvl (-2000) 0 0 (sp_setSchedule (up (up P 0 11 v) 0 12 ((two / 5) % 4)) 10 0)))] 697
          have e_62 : sp_setSchedule (up (up P 0 11 v) 0 12 ((two / 5) % 4)) 10 0 = (1, 0, up (up P 0 11 v) 0 12 ((two / 5) % 4)) := gd_f (fun h => by have := h.1; omega)
          rw [e_62] at q_59
          refine V_eqT (y := zI (-2000)) (by rw [e_62]; rfl) ?_
          show V K tL_isProgram 16 100 (lW b τ_37 (Y ++ fm (cO en c κ_58))) _ [.int (zI (-2000))] 697
          refine V_sipush dL_isProgram_697 (by decide) ?_
          refine V_icmp_ne (tgt := 707) dL_isProgram_700 (by decide) ⟨⟨by decide, by decide⟩, ⟨by decide, by decide⟩⟩ (fun h => absurd h (by decide)) (fun _ => ?_)
          refine V_iconst dL_isProgram_703 ?_
          refine V_goto (tgt := 708) dL_isProgram_704 (by decide) ?_
          show V K tL_isProgram 16 100 _ _ [.int (zI (bz true))] 708
          refine V_zret hR rfl (Nat.le_of_ble_eq_true rfl) (Nat.le_of_ble_eq_true rfl) dL_isProgram_708 ?_
          exact ⟨_, _, _, _, rfl, rfl, rfl, hM_34, ((hL_35).fr q_38 (by decide)), q_59⟩
      refine V_aload_n dL_isProgram_615 rfl ?_
      refine V_iconst dL_isProgram_616 ?_
      refine V_iload dL_isProgram_617 rfl ?_
      refine V_iconst dL_isProgram_619 ?_
      refine V_iremN dL_isProgram_620 ⟨⟨by omega, by omega⟩, ⟨by omega, by omega⟩, by omega, by omega⟩ ?_
      refine V_if_ne (tgt := 632) dL_isProgram_621 (by decide) ⟨by omega, by omega⟩ (fun c_64 => ?_) (fun c_64 => ?_)
      · refine V_iload dL_isProgram_632 rfl ?_
        refine V_iconst dL_isProgram_634 ?_
        refine V_iremN dL_isProgram_635 ⟨⟨by omega, by omega⟩, ⟨by omega, by omega⟩, by omega, by omega⟩ ?_
        refine seg_636 (one % 4) ?_
        · omega
      · refine V_iload dL_isProgram_624 rfl ?_
        refine V_bipush dL_isProgram_626 (by decide) ?_
        refine V_iremN dL_isProgram_628 ⟨⟨by omega, by omega⟩, ⟨by omega, by omega⟩, by omega, by omega⟩ ?_
        refine V_goto (tgt := 636) dL_isProgram_629 (by decide) ?_
        refine seg_636 (one % 10) ?_
        · omega
    have seg_546 : V K tL_isProgram 0 0 (lW b τ (Y ++ fm (cO en c κ))) [some (.ref (c 0)), some (.ref (b 0)), some (.ref (b 1)), some (.ref (b 2)), some (.ref (b 3)), some (.int (zI what)), some (.int (zI one)), some (.int (zI two)), some (.int (zI (one % (P 0 2 + 1)))), some (.int (zI (bz b1))), none, none, none, none, none, none, none] [] 546 := by
      refine V_aload_n dL_isProgram_546 rfl ?_
      refine V_iconst dL_isProgram_547 ?_
      refine V_iconst dL_isProgram_548 ?_
      refine V_iload dL_isProgram_549 rfl ?_
      refine V_iconst dL_isProgram_551 ?_
      refine V_iremN dL_isProgram_552 ⟨⟨by omega, by omega⟩, ⟨by omega, by omega⟩, by omega, by omega⟩ ?_
      refine V_iadd dL_isProgram_553 ?_
      refine ls_0 ⟨by omega, by omega⟩ dL_isProgram_554 ?_
      refine V_aload_n dL_isProgram_555 rfl ?_
      refine V_iconst dL_isProgram_556 ?_
      refine V_iconst dL_isProgram_557 ?_
      refine V_iload dL_isProgram_558 rfl ?_
      refine V_iconst dL_isProgram_560 ?_
      refine V_iremN dL_isProgram_561 ⟨⟨by omega, by omega⟩, ⟨by omega, by omega⟩, by omega, by omega⟩ ?_
      refine V_iadd dL_isProgram_562 ?_
      refine ls_0 ⟨by omega, by omega⟩ dL_isProgram_563 ?_
      refine V_aload_n dL_isProgram_564 rfl ?_
      refine V_iconst dL_isProgram_565 ?_
      refine V_aload_n dL_isProgram_566 rfl ?_
      refine V_iconst dL_isProgram_567 ?_
      refine ll_0 ⟨by omega, by omega⟩ dL_isProgram_568 ?_
      refine V_eqT (y := zI (1 + (one % 4))) (rfl) ?_
      refine V_aload_n dL_isProgram_569 rfl ?_
      refine V_iconst dL_isProgram_570 ?_
      refine ll_0 ⟨by omega, by omega⟩ dL_isProgram_571 ?_
      refine V_eqT (y := zI (1 + (two % 4))) (rfl) ?_
      refine V_iconst dL_isProgram_572 ?_
      refine V_iconst dL_isProgram_573 ?_
      refine V_iconst dL_isProgram_574 ?_
      refine V_callSBH (As := [.ref (c 0), .int (zI 4), .int (zI (1 + (one % 4))), .int (zI (1 + (two % 4))), .int (zI 0), .int (zI 0), .int (zI 0)]) (wr := (lW b (up (up τ 0 0 (1 + (one % 4))) 0 1 (1 + (two % 4))) Y)) (wc := fm (cO en c κ)) rfl hK (d_4 en c κ (1 + (one % 4)) (1 + (two % 4)) 0 0 0 P ⟨hM, hC, ⟨by omega, by omega⟩, ⟨by omega, by omega⟩⟩) mokL_does w507 w508 ⟨Nat.le_of_ble_eq_true rfl, Nat.le_of_ble_eq_true rfl⟩ rfl (Nat.le_of_ble_eq_true rfl) ⟨Nat.le_of_ble_eq_true rfl, Nat.le_of_ble_eq_true rfl⟩ dL_isProgram_575 (fun v w p_65 => ?_)
      obtain ⟨κ_66, rfl, rfl, q_67⟩ := p_65
      show V K tL_isProgram 8 50 (lW b (up (up τ 0 0 (1 + (one % 4))) 0 1 (1 + (two % 4))) (Y ++ fm (cO en c κ_66))) _ [.int (zI (dvl (-2000) 0 0 (sp_setField P (1 + (one % 4)) (1 + (two % 4)))))] 578
      have e_70 : sp_setField P (1 + (one % 4)) (1 + (two % 4)) = (0, (1 + (one % 4)) * (1 + (two % 4)), up (up P 0 0 (1 + (one % 4))) 0 1 (1 + (two % 4))) := gd_t ⟨⟨by omega, by omega⟩, by omega, by omega⟩
      rw [e_70] at q_67
      refine V_eqT (y := zI ((1 + (one % 4)) * (1 + (two % 4)))) (by rw [e_70]; rfl) ?_
      show V K tL_isProgram 8 50 (lW b (up (up τ 0 0 (1 + (one % 4))) 0 1 (1 + (two % 4))) (Y ++ fm (cO en c κ_66))) _ [.int (zI ((1 + (one % 4)) * (1 + (two % 4))))] 578
      have hmul := mulB (a := 1 + one % 4) (b := 1 + two % 4) (A := 4) (B := 4) (by omega) (by omega) (by omega) (by omega)
      have hM_71 : MI (up (up P 0 0 (1 + (one % 4))) 0 1 (1 + (two % 4))) := hM.field ⟨by omega, by omega⟩ ⟨by omega, by omega⟩
      have hL_72 : LR (up (up P 0 0 (1 + (one % 4))) 0 1 (1 + (two % 4))) (up (up τ 0 0 (1 + (one % 4))) 0 1 (1 + (two % 4))) := hL.field ⟨by omega, by omega⟩ rfl rfl rfl
      refine V_aload_n dL_isProgram_578 rfl ?_
      refine V_callSF (As := [.ref (b 0)]) hK (q_points (EX.stb en) b (up (up τ 0 0 (1 + (one % 4))) 0 1 (1 + (two % 4))) (Y ++ fm (cO en c κ_66)) (up (up P 0 0 (1 + (one % 4))) 0 1 (1 + (two % 4))) ⟨hM_71, hL_72⟩) mokL_points w871 w872 ⟨Nat.le_of_ble_eq_true rfl, Nat.le_of_ble_eq_true rfl⟩ rfl (Nat.le_of_ble_eq_true rfl) ⟨Nat.le_of_ble_eq_true rfl, Nat.le_of_ble_eq_true rfl⟩ dL_isProgram_579 (fun v w p_73 => ?_)
      obtain ⟨rfl, rfl⟩ := p_73
      show V K tL_isProgram 8 50 (lW b (up (up τ 0 0 (1 + (one % 4))) 0 1 (1 + (two % 4))) (Y ++ fm (cO en c κ_66))) _ [.int (zI (pt (up (up P 0 0 (1 + (one % 4))) 0 1 (1 + (two % 4))))), .int (zI ((1 + (one % 4)) * (1 + (two % 4))))] 582
      refine V_eqT (y := zI ((1 + (one % 4)) * (1 + (two % 4)))) (rfl) ?_
      refine V_icmp_ne (tgt := 606) dL_isProgram_582 (by decide) ⟨⟨by omega, by omega⟩, ⟨by omega, by omega⟩⟩ (fun c_74 => absurd (rfl) c_74) (fun _ => ?_)
      refine V_aload_n dL_isProgram_585 rfl ?_
      refine V_iconst dL_isProgram_586 ?_
      refine V_bipush dL_isProgram_587 (by decide) ?_
      refine V_iconst dL_isProgram_589 ?_
      refine V_iconst dL_isProgram_590 ?_
      refine V_iconst dL_isProgram_591 ?_
      refine V_iconst dL_isProgram_592 ?_
      refine V_callSBH (As := [.ref (c 0), .int (zI 4), .int (zI 9), .int (zI 1), .int (zI 0), .int (zI 0), .int (zI 0)]) (wr := (lW b (up (up τ 0 0 (1 + (one % 4))) 0 1 (1 + (two % 4))) Y)) (wc := fm (cO en c κ_66)) rfl hK (d_4 en c κ_66 9 1 0 0 0 (up (up P 0 0 (1 + (one % 4))) 0 1 (1 + (two % 4))) ⟨hM_71, q_67, ⟨by omega, by omega⟩, ⟨by omega, by omega⟩⟩) mokL_does w507 w508 ⟨Nat.le_of_ble_eq_true rfl, Nat.le_of_ble_eq_true rfl⟩ rfl (Nat.le_of_ble_eq_true rfl) ⟨Nat.le_of_ble_eq_true rfl, Nat.le_of_ble_eq_true rfl⟩ dL_isProgram_593 (fun v w p_75 => ?_)
      obtain ⟨κ_76, rfl, rfl, q_77⟩ := p_75
      show V K tL_isProgram 16 100 (lW b (up (up τ 0 0 (1 + (one % 4))) 0 1 (1 + (two % 4))) (Y ++ fm (cO en c κ_76))) _ [.int (zI (dvl (-2000) 0 0 (sp_setField (up (up P 0 0 (1 + (one % 4))) 0 1 (1 + (two % 4))) 9 1)))] 596
      have e_80 : sp_setField (up (up P 0 0 (1 + (one % 4))) 0 1 (1 + (two % 4))) 9 1 = (1, 0, up (up P 0 0 (1 + (one % 4))) 0 1 (1 + (two % 4))) := gd_f (fun h => by have := h.1; omega)
      rw [e_80] at q_77
      refine V_eqT (y := zI (-2000)) (by rw [e_80]; rfl) ?_
      show V K tL_isProgram 16 100 (lW b (up (up τ 0 0 (1 + (one % 4))) 0 1 (1 + (two % 4))) (Y ++ fm (cO en c κ_76))) _ [.int (zI (-2000))] 596
      refine V_sipush dL_isProgram_596 (by decide) ?_
      refine V_icmp_ne (tgt := 606) dL_isProgram_599 (by decide) ⟨⟨by decide, by decide⟩, ⟨by decide, by decide⟩⟩ (fun h => absurd h (by decide)) (fun _ => ?_)
      refine V_iconst dL_isProgram_602 ?_
      refine V_goto (tgt := 607) dL_isProgram_603 (by decide) ?_
      show V K tL_isProgram 16 100 _ _ [.int (zI (bz true))] 607
      refine V_zret hR rfl (Nat.le_of_ble_eq_true rfl) (Nat.le_of_ble_eq_true rfl) dL_isProgram_607 ?_
      exact ⟨_, _, _, _, rfl, rfl, rfl, hM_71, hL_72, q_77⟩
    have seg_464 : V K tL_isProgram 0 0 (lW b τ (Y ++ fm (cO en c κ))) [some (.ref (c 0)), some (.ref (b 0)), some (.ref (b 1)), some (.ref (b 2)), some (.ref (b 3)), some (.int (zI what)), some (.int (zI one)), some (.int (zI two)), some (.int (zI (one % (P 0 2 + 1)))), some (.int (zI (bz b1))), none, none, none, none, none, none, none] [] 464 := by
      have hr9 := fun h => las_b hM hsw.1 (show one % (P 0 2 + 1) < 4 from h)
      refine V_iload dL_isProgram_464 rfl ?_
      refine V_ifb_eq (tgt := 479) dL_isProgram_466 (by decide) (fun c_82 => ?_) (fun c_82 => ?_)
      · refine V_iconst dL_isProgram_479 ?_
        refine V_istore (L' := [some (.ref (c 0)), some (.ref (b 0)), some (.ref (b 1)), some (.ref (b 2)), some (.ref (b 3)), some (.int (zI what)), some (.int (zI one)), some (.int (zI two)), some (.int (zI (one % (P 0 2 + 1)))), some (.int (zI (bz b1))), some (.int (zI 0)), none, none, none, none, none, none]) dL_isProgram_480 (by decide) rfl ?_
        refine V_aload_n dL_isProgram_482 rfl ?_
        refine V_iload dL_isProgram_483 rfl ?_
        refine V_ifb_eq (tgt := 496) dL_isProgram_485 (by decide) (fun _ => ?_) (fun c_83 => absurd (c_83.symm.trans c_82) (by decide))
        refine V_bipush dL_isProgram_496 (by decide) ?_
        refine V_iload dL_isProgram_498 rfl ?_
        refine V_iconst dL_isProgram_500 ?_
        refine V_iremN dL_isProgram_501 ⟨⟨by omega, by omega⟩, ⟨by omega, by omega⟩, by omega, by omega⟩ ?_
        refine ls_1 ⟨by omega, by omega⟩ dL_isProgram_502 ?_
        refine V_aload_n dL_isProgram_503 rfl ?_
        refine V_iconst dL_isProgram_504 ?_
        refine V_iload dL_isProgram_505 rfl ?_
        refine V_iload dL_isProgram_507 rfl ?_
        refine V_iconst dL_isProgram_509 ?_
        refine V_iremN dL_isProgram_510 ⟨⟨by omega, by omega⟩, ⟨by omega, by omega⟩, by omega, by omega⟩ ?_
        refine V_iconst dL_isProgram_511 ?_
        refine V_iconst dL_isProgram_512 ?_
        refine V_iconst dL_isProgram_513 ?_
        refine V_callSBH (As := [.ref (c 0), .int (zI 3), .int (zI (one % (P 0 2 + 1))), .int (zI (two % 2)), .int (zI 0), .int (zI 0), .int (zI 0)]) (wr := (lW b (up τ 1 28 (two % 2)) Y)) (wc := fm (cO en c κ)) rfl hK (d_3 en c κ (one % (P 0 2 + 1)) (two % 2) 0 0 0 P ⟨hM, hC, ⟨by omega, by omega⟩, by omega⟩) mokL_does w507 w508 ⟨Nat.le_of_ble_eq_true rfl, Nat.le_of_ble_eq_true rfl⟩ rfl (Nat.le_of_ble_eq_true rfl) ⟨Nat.le_of_ble_eq_true rfl, Nat.le_of_ble_eq_true rfl⟩ dL_isProgram_514 (fun v w p_84 => ?_)
        obtain ⟨κ_85, rfl, rfl, q_86⟩ := p_84
        show V K tL_isProgram 8 50 (lW b (up τ 1 28 (two % 2)) (Y ++ fm (cO en c κ_85))) _ [.int (zI (dvl (-3000) 0 0 (sp_setLasting P (one % (P 0 2 + 1)) (two % 2))))] 517
        have e_89 : sp_setLasting P (one % (P 0 2 + 1)) (two % 2) = (1, 0, P) := gd_f (fun h => by have := hb1.mpr h.2; rw [c_82] at this; exact nomatch this)
        rw [e_89] at q_86
        refine V_eqT (y := zI (-3000)) (by rw [e_89]; rfl) ?_
        show V K tL_isProgram 8 50 (lW b (up τ 1 28 (two % 2)) (Y ++ fm (cO en c κ_85))) _ [.int (zI (-3000))] 517
        refine V_iload dL_isProgram_517 rfl ?_
        refine V_ifb_eq (tgt := 527) dL_isProgram_519 (by decide) (fun _ => ?_) (fun c_90 => absurd (c_90.symm.trans c_82) (by decide))
        refine V_sipush dL_isProgram_527 (by decide) ?_
        refine V_icmp_ne (tgt := 537) dL_isProgram_530 (by decide) ⟨⟨by decide, by decide⟩, ⟨by decide, by decide⟩⟩ (fun h => absurd h (by decide)) (fun _ => ?_)
        refine V_iconst dL_isProgram_533 ?_
        refine V_goto (tgt := 538) dL_isProgram_534 (by decide) ?_
        show V K tL_isProgram 8 50 _ _ [.int (zI (bz true))] 538
        refine V_zret hR rfl (Nat.le_of_ble_eq_true rfl) (Nat.le_of_ble_eq_true rfl) dL_isProgram_538 ?_
        exact ⟨_, _, _, P, rfl, rfl, rfl, hM, hL.dump, q_86⟩
      · have hs2 := hb1.mp c_82
        have hat := hL.at hsw.1 (show one % (P 0 2 + 1) < 4 by omega)
        refine V_aload_n dL_isProgram_469 rfl ?_
        refine V_bipush dL_isProgram_470 (by decide) ?_
        refine V_iload dL_isProgram_472 rfl ?_
        refine V_iadd dL_isProgram_474 ?_
        refine ll_1 ⟨by omega, by omega⟩ dL_isProgram_475 ?_
        refine V_eqT (y := zI (P 9 (one % (P 0 2 + 1)))) (congrArg zI hat.2.2.1) ?_
        refine V_goto (tgt := 480) dL_isProgram_476 (by decide) ?_
        refine V_istore (L' := [some (.ref (c 0)), some (.ref (b 0)), some (.ref (b 1)), some (.ref (b 2)), some (.ref (b 3)), some (.int (zI what)), some (.int (zI one)), some (.int (zI two)), some (.int (zI (one % (P 0 2 + 1)))), some (.int (zI (bz b1))), some (.int (zI (P 9 (one % (P 0 2 + 1))))), none, none, none, none, none, none]) dL_isProgram_480 (by decide) rfl ?_
        refine V_aload_n dL_isProgram_482 rfl ?_
        refine V_iload dL_isProgram_483 rfl ?_
        refine V_ifb_eq (tgt := 496) dL_isProgram_485 (by decide) (fun c_92 => absurd (c_92.symm.trans c_82) (by decide)) (fun _ => ?_)
        have hs2 := hb1.mp c_82
        refine V_bipush dL_isProgram_488 (by decide) ?_
        refine V_iload dL_isProgram_490 rfl ?_
        refine V_iadd dL_isProgram_492 ?_
        refine V_goto (tgt := 498) dL_isProgram_493 (by decide) ?_
        refine V_iload dL_isProgram_498 rfl ?_
        refine V_iconst dL_isProgram_500 ?_
        refine V_iremN dL_isProgram_501 ⟨⟨by omega, by omega⟩, ⟨by omega, by omega⟩, by omega, by omega⟩ ?_
        refine ls_1 ⟨by omega, by omega⟩ dL_isProgram_502 ?_
        refine V_aload_n dL_isProgram_503 rfl ?_
        refine V_iconst dL_isProgram_504 ?_
        refine V_iload dL_isProgram_505 rfl ?_
        refine V_iload dL_isProgram_507 rfl ?_
        refine V_iconst dL_isProgram_509 ?_
        refine V_iremN dL_isProgram_510 ⟨⟨by omega, by omega⟩, ⟨by omega, by omega⟩, by omega, by omega⟩ ?_
        refine V_iconst dL_isProgram_511 ?_
        refine V_iconst dL_isProgram_512 ?_
        refine V_iconst dL_isProgram_513 ?_
        have hr9b := las_b hM hsw.1 (show one % (P 0 2 + 1) < 4 by omega)
        refine V_callSBH (As := [.ref (c 0), .int (zI 3), .int (zI (one % (P 0 2 + 1))), .int (zI (two % 2)), .int (zI 0), .int (zI 0), .int (zI 0)]) (wr := (lW b (up τ 1 (8 + (one % (P 0 2 + 1))) (two % 2)) Y)) (wc := fm (cO en c κ)) rfl hK (d_3 en c κ (one % (P 0 2 + 1)) (two % 2) 0 0 0 P ⟨hM, hC, ⟨by omega, by omega⟩, by omega⟩) mokL_does w507 w508 ⟨Nat.le_of_ble_eq_true rfl, Nat.le_of_ble_eq_true rfl⟩ rfl (Nat.le_of_ble_eq_true rfl) ⟨Nat.le_of_ble_eq_true rfl, Nat.le_of_ble_eq_true rfl⟩ dL_isProgram_514 (fun v w p_93 => ?_)
        obtain ⟨κ_94, rfl, rfl, q_95⟩ := p_93
        show V K tL_isProgram 8 50 (lW b (up τ 1 (8 + (one % (P 0 2 + 1))) (two % 2)) (Y ++ fm (cO en c κ_94))) _ [.int (zI (dvl (-3000) 0 0 (sp_setLasting P (one % (P 0 2 + 1)) (two % 2))))] 517
        have e_98 : sp_setLasting P (one % (P 0 2 + 1)) (two % 2) = (0, P 9 (one % (P 0 2 + 1)), up P 9 (one % (P 0 2 + 1)) (two % 2)) := gd_t ⟨by omega, hb1.mp c_82⟩
        rw [e_98] at q_95
        refine V_eqT (y := zI (P 9 (one % (P 0 2 + 1)))) (by rw [e_98]; rfl) ?_
        show V K tL_isProgram 8 50 (lW b (up τ 1 (8 + (one % (P 0 2 + 1))) (two % 2)) (Y ++ fm (cO en c κ_94))) _ [.int (zI (P 9 (one % (P 0 2 + 1))))] 517
        refine V_iload dL_isProgram_517 rfl ?_
        refine V_ifb_eq (tgt := 527) dL_isProgram_519 (by decide) (fun c_99 => absurd (c_99.symm.trans c_82) (by decide)) (fun _ => ?_)
        refine V_iload dL_isProgram_522 rfl ?_
        refine V_goto (tgt := 530) dL_isProgram_524 (by decide) ?_
        refine V_icmp_ne (tgt := 537) dL_isProgram_530 (by decide) ⟨⟨by omega, by omega⟩, ⟨by omega, by omega⟩⟩ (fun c_100 => absurd (rfl) c_100) (fun _ => ?_)
        refine V_iconst dL_isProgram_533 ?_
        refine V_goto (tgt := 538) dL_isProgram_534 (by decide) ?_
        show V K tL_isProgram 8 50 _ _ [.int (zI (bz true))] 538
        refine V_zret hR rfl (Nat.le_of_ble_eq_true rfl) (Nat.le_of_ble_eq_true rfl) dL_isProgram_538 ?_
        exact ⟨_, _, _, _, rfl, rfl, rfl, last_MI hM ⟨by omega, hb1.mp c_82⟩ (by omega), hL.last ⟨by omega, by omega⟩, q_95⟩
    have seg_390 : V K tL_isProgram 0 0 (lW b τ (Y ++ fm (cO en c κ))) [some (.ref (c 0)), some (.ref (b 0)), some (.ref (b 1)), some (.ref (b 2)), some (.ref (b 3)), some (.int (zI what)), some (.int (zI one)), some (.int (zI two)), some (.int (zI (one % (P 0 2 + 1)))), some (.int (zI (bz b1))), none, none, none, none, none, none, none] [] 390 := by
      have hr4 := fun h => rds_b hM hsw.1 (show one % (P 0 2 + 1) < 4 from h)
      refine V_iload dL_isProgram_390 rfl ?_
      refine V_ifb_eq (tgt := 404) dL_isProgram_392 (by decide) (fun c_101 => ?_) (fun c_101 => ?_)
      · refine V_iconst dL_isProgram_404 ?_
        refine V_istore (L' := [some (.ref (c 0)), some (.ref (b 0)), some (.ref (b 1)), some (.ref (b 2)), some (.ref (b 3)), some (.int (zI what)), some (.int (zI one)), some (.int (zI two)), some (.int (zI (one % (P 0 2 + 1)))), some (.int (zI (bz b1))), some (.int (zI 0)), none, none, none, none, none, none]) dL_isProgram_405 (by decide) rfl ?_
        refine V_aload_n dL_isProgram_407 rfl ?_
        refine V_iload dL_isProgram_408 rfl ?_
        refine V_ifb_eq (tgt := 420) dL_isProgram_410 (by decide) (fun _ => ?_) (fun c_102 => absurd (c_102.symm.trans c_101) (by decide))
        refine V_bipush dL_isProgram_420 (by decide) ?_
        refine V_iconst dL_isProgram_422 ?_
        refine ls_1 ⟨by omega, by omega⟩ dL_isProgram_423 ?_
        refine V_aload_n dL_isProgram_424 rfl ?_
        refine V_iconst dL_isProgram_425 ?_
        refine V_iload dL_isProgram_426 rfl ?_
        refine V_iconst dL_isProgram_428 ?_
        refine V_iconst dL_isProgram_429 ?_
        refine V_iconst dL_isProgram_430 ?_
        refine V_iconst dL_isProgram_431 ?_
        refine V_callSBH (As := [.ref (c 0), .int (zI 2), .int (zI (one % (P 0 2 + 1))), .int (zI 0), .int (zI 0), .int (zI 0), .int (zI 0)]) (wr := (lW b (up τ 1 28 0) Y)) (wc := fm (cO en c κ)) rfl hK (d_2 en c κ (one % (P 0 2 + 1)) 0 0 0 0 P ⟨hM, hC, ⟨by omega, by omega⟩⟩) mokL_does w507 w508 ⟨Nat.le_of_ble_eq_true rfl, Nat.le_of_ble_eq_true rfl⟩ rfl (Nat.le_of_ble_eq_true rfl) ⟨Nat.le_of_ble_eq_true rfl, Nat.le_of_ble_eq_true rfl⟩ dL_isProgram_432 (fun v w p_103 => ?_)
        obtain ⟨κ_104, rfl, rfl, q_105⟩ := p_103
        show V K tL_isProgram 8 50 (lW b (up τ 1 28 0) (Y ++ fm (cO en c κ_104))) _ [.int (zI (dvl (-3000) 0 0 (sp_dropReads P (one % (P 0 2 + 1)))))] 435
        have e_108 : sp_dropReads P (one % (P 0 2 + 1)) = (1, 0, P) := gd_f (fun h => by have := hb1.mpr h.2; rw [c_101] at this; exact nomatch this)
        rw [e_108] at q_105
        refine V_eqT (y := zI (-3000)) (by rw [e_108]; rfl) ?_
        show V K tL_isProgram 8 50 (lW b (up τ 1 28 0) (Y ++ fm (cO en c κ_104))) _ [.int (zI (-3000))] 435
        refine V_iload dL_isProgram_435 rfl ?_
        refine V_ifb_eq (tgt := 445) dL_isProgram_437 (by decide) (fun _ => ?_) (fun c_109 => absurd (c_109.symm.trans c_101) (by decide))
        refine V_sipush dL_isProgram_445 (by decide) ?_
        refine V_icmp_ne (tgt := 455) dL_isProgram_448 (by decide) ⟨⟨by decide, by decide⟩, ⟨by decide, by decide⟩⟩ (fun h => absurd h (by decide)) (fun _ => ?_)
        refine V_iconst dL_isProgram_451 ?_
        refine V_goto (tgt := 456) dL_isProgram_452 (by decide) ?_
        show V K tL_isProgram 8 50 _ _ [.int (zI (bz true))] 456
        refine V_zret hR rfl (Nat.le_of_ble_eq_true rfl) (Nat.le_of_ble_eq_true rfl) dL_isProgram_456 ?_
        exact ⟨_, _, _, P, rfl, rfl, rfl, hM, hL.dump, q_105⟩
      · have hs2 := hb1.mp c_101
        have hat := hL.at hsw.1 (show one % (P 0 2 + 1) < 4 by omega)
        refine V_aload_n dL_isProgram_395 rfl ?_
        refine V_iconst dL_isProgram_396 ?_
        refine V_iload dL_isProgram_397 rfl ?_
        refine V_iadd dL_isProgram_399 ?_
        refine ll_1 ⟨by omega, by omega⟩ dL_isProgram_400 ?_
        refine V_eqT (y := zI (P 4 (one % (P 0 2 + 1)))) (congrArg zI hat.2.1) ?_
        refine V_goto (tgt := 405) dL_isProgram_401 (by decide) ?_
        refine V_istore (L' := [some (.ref (c 0)), some (.ref (b 0)), some (.ref (b 1)), some (.ref (b 2)), some (.ref (b 3)), some (.int (zI what)), some (.int (zI one)), some (.int (zI two)), some (.int (zI (one % (P 0 2 + 1)))), some (.int (zI (bz b1))), some (.int (zI (P 4 (one % (P 0 2 + 1))))), none, none, none, none, none, none]) dL_isProgram_405 (by decide) rfl ?_
        refine V_aload_n dL_isProgram_407 rfl ?_
        refine V_iload dL_isProgram_408 rfl ?_
        refine V_ifb_eq (tgt := 420) dL_isProgram_410 (by decide) (fun c_111 => absurd (c_111.symm.trans c_101) (by decide)) (fun _ => ?_)
        have hs2 := hb1.mp c_101
        refine V_iconst dL_isProgram_413 ?_
        refine V_iload dL_isProgram_414 rfl ?_
        refine V_iadd dL_isProgram_416 ?_
        refine V_goto (tgt := 422) dL_isProgram_417 (by decide) ?_
        refine V_iconst dL_isProgram_422 ?_
        refine ls_1 ⟨by omega, by omega⟩ dL_isProgram_423 ?_
        refine V_aload_n dL_isProgram_424 rfl ?_
        refine V_iconst dL_isProgram_425 ?_
        refine V_iload dL_isProgram_426 rfl ?_
        refine V_iconst dL_isProgram_428 ?_
        refine V_iconst dL_isProgram_429 ?_
        refine V_iconst dL_isProgram_430 ?_
        refine V_iconst dL_isProgram_431 ?_
        have hr4b := rds_b hM hsw.1 (show one % (P 0 2 + 1) < 4 by omega)
        refine V_callSBH (As := [.ref (c 0), .int (zI 2), .int (zI (one % (P 0 2 + 1))), .int (zI 0), .int (zI 0), .int (zI 0), .int (zI 0)]) (wr := (lW b (up τ 1 (4 + (one % (P 0 2 + 1))) 0) Y)) (wc := fm (cO en c κ)) rfl hK (d_2 en c κ (one % (P 0 2 + 1)) 0 0 0 0 P ⟨hM, hC, ⟨by omega, by omega⟩⟩) mokL_does w507 w508 ⟨Nat.le_of_ble_eq_true rfl, Nat.le_of_ble_eq_true rfl⟩ rfl (Nat.le_of_ble_eq_true rfl) ⟨Nat.le_of_ble_eq_true rfl, Nat.le_of_ble_eq_true rfl⟩ dL_isProgram_432 (fun v w p_112 => ?_)
        obtain ⟨κ_113, rfl, rfl, q_114⟩ := p_112
        show V K tL_isProgram 8 50 (lW b (up τ 1 (4 + (one % (P 0 2 + 1))) 0) (Y ++ fm (cO en c κ_113))) _ [.int (zI (dvl (-3000) 0 0 (sp_dropReads P (one % (P 0 2 + 1)))))] 435
        have e_117 : sp_dropReads P (one % (P 0 2 + 1)) = (0, P 4 (one % (P 0 2 + 1)), up P 4 (one % (P 0 2 + 1)) 0) := gd_t ⟨by omega, hb1.mp c_101⟩
        rw [e_117] at q_114
        refine V_eqT (y := zI (P 4 (one % (P 0 2 + 1)))) (by rw [e_117]; rfl) ?_
        show V K tL_isProgram 8 50 (lW b (up τ 1 (4 + (one % (P 0 2 + 1))) 0) (Y ++ fm (cO en c κ_113))) _ [.int (zI (P 4 (one % (P 0 2 + 1))))] 435
        refine V_iload dL_isProgram_435 rfl ?_
        refine V_ifb_eq (tgt := 445) dL_isProgram_437 (by decide) (fun c_118 => absurd (c_118.symm.trans c_101) (by decide)) (fun _ => ?_)
        refine V_iload dL_isProgram_440 rfl ?_
        refine V_goto (tgt := 448) dL_isProgram_442 (by decide) ?_
        refine V_icmp_ne (tgt := 455) dL_isProgram_448 (by decide) ⟨⟨by omega, by omega⟩, ⟨by omega, by omega⟩⟩ (fun c_119 => absurd (rfl) c_119) (fun _ => ?_)
        refine V_iconst dL_isProgram_451 ?_
        refine V_goto (tgt := 456) dL_isProgram_452 (by decide) ?_
        show V K tL_isProgram 8 50 _ _ [.int (zI (bz true))] 456
        refine V_zret hR rfl (Nat.le_of_ble_eq_true rfl) (Nat.le_of_ble_eq_true rfl) dL_isProgram_456 ?_
        exact ⟨_, _, _, _, rfl, rfl, rfl, by have h := mi_dropReads (s := one % (P 0 2 + 1)) hM; rw [e_117] at h; exact h, hL.drop ⟨by omega, by omega⟩, q_114⟩
    have seg_149 : V K tL_isProgram 0 0 (lW b τ (Y ++ fm (cO en c κ))) [some (.ref (c 0)), some (.ref (b 0)), some (.ref (b 1)), some (.ref (b 2)), some (.ref (b 3)), some (.int (zI what)), some (.int (zI one)), some (.int (zI two)), some (.int (zI (one % (P 0 2 + 1)))), some (.int (zI (bz b1))), none, none, none, none, none, none, none] [] 149 := by
      have seg_210 : ∀ (b2 : Bool), (b2 = true ↔ (one % (P 0 2 + 1) < P 0 2 ∧ two % (P 0 2 + 1) < P 0 2)) → V K tL_isProgram 0 0 (lW b τ (Y ++ fm (cO en c κ))) [some (.ref (c 0)), some (.ref (b 0)), some (.ref (b 1)), some (.ref (b 2)), some (.ref (b 3)), some (.int (zI what)), some (.int (zI one)), some (.int (zI two)), some (.int (zI (one % (P 0 2 + 1)))), some (.int (zI (bz b1))), some (.int (zI (two % (P 0 2 + 1)))), some (.int (zI (1 + (two / 5) % 9))), some (.int (zI ((two / 45) % 5))), some (.int (zI (((two / 225) % 8) - 3))), none, none, none] [.int (zI (bz b2))] 210 := by
        intro b2 hb2
        have seg_229 : ∀ (b3 : Bool), (b3 = true ↔ ((two / 45) % 5 < 4 ∧ ((two / 225) % 8) - 3 < 4)) → V K tL_isProgram 0 0 (lW b τ (Y ++ fm (cO en c κ))) [some (.ref (c 0)), some (.ref (b 0)), some (.ref (b 1)), some (.ref (b 2)), some (.ref (b 3)), some (.int (zI what)), some (.int (zI one)), some (.int (zI two)), some (.int (zI (one % (P 0 2 + 1)))), some (.int (zI (bz b1))), some (.int (zI (two % (P 0 2 + 1)))), some (.int (zI (1 + (two / 5) % 9))), some (.int (zI ((two / 45) % 5))), some (.int (zI (((two / 225) % 8) - 3))), some (.int (zI (bz b2))), none, none] [.int (zI (bz b3))] 229 := by
          intro b3 hb3
          have seg_265 : ∀ (b4 : Bool), (b4 = true ↔ ((one % (P 0 2 + 1) < P 0 2 ∧ two % (P 0 2 + 1) < P 0 2) ∧ ((two / 45) % 5 < 4 ∧ ((two / 225) % 8) - 3 < 4) ∧ P 4 (one % (P 0 2 + 1)) < 4)) → V K tL_isProgram 0 0 (lW b τ (Y ++ fm (cO en c κ))) [some (.ref (c 0)), some (.ref (b 0)), some (.ref (b 1)), some (.ref (b 2)), some (.ref (b 3)), some (.int (zI what)), some (.int (zI one)), some (.int (zI two)), some (.int (zI (one % (P 0 2 + 1)))), some (.int (zI (bz b1))), some (.int (zI (two % (P 0 2 + 1)))), some (.int (zI (1 + (two / 5) % 9))), some (.int (zI ((two / 45) % 5))), some (.int (zI (((two / 225) % 8) - 3))), some (.int (zI (bz b2))), some (.int (zI (bz b3))), none] [.int (zI (bz b4))] 265 := by
            intro b4 hb4
            refine V_istore (L' := [some (.ref (c 0)), some (.ref (b 0)), some (.ref (b 1)), some (.ref (b 2)), some (.ref (b 3)), some (.int (zI what)), some (.int (zI one)), some (.int (zI two)), some (.int (zI (one % (P 0 2 + 1)))), some (.int (zI (bz b1))), some (.int (zI (two % (P 0 2 + 1)))), some (.int (zI (1 + (two / 5) % 9))), some (.int (zI ((two / 45) % 5))), some (.int (zI (((two / 225) % 8) - 3))), some (.int (zI (bz b2))), some (.int (zI (bz b3))), some (.int (zI (bz b4)))]) dL_isProgram_265 (by decide) rfl ?_
            refine V_iload dL_isProgram_267 rfl ?_
            refine V_ifb_eq (tgt := 319) dL_isProgram_269 (by decide) (fun c_120 => ?_) (fun c_120 => ?_)
            · refine V_aload_n dL_isProgram_319 rfl ?_
              refine V_iconst dL_isProgram_320 ?_
              refine V_iload dL_isProgram_321 rfl ?_
              refine V_iload dL_isProgram_323 rfl ?_
              refine V_iload dL_isProgram_325 rfl ?_
              refine V_iload dL_isProgram_327 rfl ?_
              refine V_iload dL_isProgram_329 rfl ?_
              refine V_callSBH (As := [.ref (c 0), .int (zI 1), .int (zI (one % (P 0 2 + 1))), .int (zI (two % (P 0 2 + 1))), .int (zI (1 + (two / 5) % 9)), .int (zI ((two / 45) % 5)), .int (zI (((two / 225) % 8) - 3))]) (wr := (lW b τ Y)) (wc := fm (cO en c κ)) rfl hK (d_1 en c κ (one % (P 0 2 + 1)) (two % (P 0 2 + 1)) (1 + (two / 5) % 9) ((two / 45) % 5) (((two / 225) % 8) - 3) P ⟨hM, hC, ⟨by omega, by omega⟩, ⟨by omega, by omega⟩, ⟨by omega, by omega⟩, ⟨by omega, by omega⟩, ⟨by omega, by omega⟩⟩) mokL_does w507 w508 ⟨Nat.le_of_ble_eq_true rfl, Nat.le_of_ble_eq_true rfl⟩ rfl (Nat.le_of_ble_eq_true rfl) ⟨Nat.le_of_ble_eq_true rfl, Nat.le_of_ble_eq_true rfl⟩ dL_isProgram_331 (fun v w p_121 => ?_)
              obtain ⟨c_124, κ_122, rfl, rfl, e_125, q_123⟩ := p_121
              show V K tL_isProgram 8 50 (lW b τ (Y ++ fm (cO en c_124 κ_122))) _ [.int (zI (dvl (-3000) (-2000) (-1000) (sp_addRead P (one % (P 0 2 + 1)) (two % (P 0 2 + 1)) (1 + (two / 5) % 9) ((two / 45) % 5) (((two / 225) % 8) - 3))))] 334
              refine V_iload dL_isProgram_334 rfl ?_
              refine V_ifb_ne (tgt := 345) dL_isProgram_336 (by decide) (fun c_126 => ?_) (fun c_126 => ?_)
              · refine V_iload dL_isProgram_345 rfl ?_
                refine V_ifb_ne (tgt := 356) dL_isProgram_347 (by decide) (fun c_127 => ?_) (fun c_127 => ?_)
                · refine V_iload dL_isProgram_356 rfl ?_
                  refine V_ifb_eq (tgt := 372) dL_isProgram_358 (by decide) (fun _ => ?_) (fun c_128 => absurd (c_128.symm.trans c_120) (by decide))
                  have h22 := hb2.mp c_126
                  have h33 := hb3.mp c_127
                  have h44 : ¬ P 4 (one % (P 0 2 + 1)) < 4 := fun h => by have := hb4.mpr ⟨h22, h33, h⟩; rw [c_120] at this; exact nomatch this
                  have hr4 := rds_b hM hsw.1 (show one % (P 0 2 + 1) < 4 by omega)
                  have e9 : sp_addRead P (one % (P 0 2 + 1)) (two % (P 0 2 + 1)) (1 + (two / 5) % 9) ((two / 45) % 5) (((two / 225) % 8) - 3) = (3, 0, P) := (gd_t ⟨⟨by omega, by omega⟩, by omega, by omega⟩).trans ((gd_t ⟨⟨by omega, by omega⟩, ⟨by omega, by omega⟩, by omega, by omega⟩).trans (gd_f (fun h => h (by omega))))
                  refine V_sipush dL_isProgram_372 (by decide) ?_
                  have hd9 : dvl (-3000) (-2000) (-1000) (sp_addRead P (one % (P 0 2 + 1)) (two % (P 0 2 + 1)) (1 + (two / 5) % 9) ((two / 45) % 5) (((two / 225) % 8) - 3)) = -1000 := by rw [e9]; rfl
                  refine V_icmp_ne (tgt := 382) dL_isProgram_375 (by decide) ⟨by rw [hd9]; exact ⟨by omega, by omega⟩, ⟨by omega, by omega⟩⟩ (fun c_129 => absurd (hd9) c_129) (fun _ => ?_)
                  refine V_iconst dL_isProgram_378 ?_
                  refine V_goto (tgt := 383) dL_isProgram_379 (by decide) ?_
                  show V K tL_isProgram 8 50 _ _ [.int (zI (bz true))] 383
                  refine V_zret hR rfl (Nat.le_of_ble_eq_true rfl) (Nat.le_of_ble_eq_true rfl) dL_isProgram_383 ?_
                  exact ⟨_, _, _, P, rfl, rfl, e_125, hM, hL, by have h := q_123; rw [e9] at h; exact h⟩
                · have h22 := hb2.mp c_126
                  have e9 : sp_addRead P (one % (P 0 2 + 1)) (two % (P 0 2 + 1)) (1 + (two / 5) % 9) ((two / 45) % 5) (((two / 225) % 8) - 3) = (2, 0, P) := (gd_t ⟨⟨by omega, by omega⟩, by omega, by omega⟩).trans (gd_f (fun h => by have := hb3.mpr ⟨by omega, by omega⟩; rw [c_127] at this; exact nomatch this))
                  refine V_sipush dL_isProgram_350 (by decide) ?_
                  refine V_goto (tgt := 375) dL_isProgram_353 (by decide) ?_
                  have hd9 : dvl (-3000) (-2000) (-1000) (sp_addRead P (one % (P 0 2 + 1)) (two % (P 0 2 + 1)) (1 + (two / 5) % 9) ((two / 45) % 5) (((two / 225) % 8) - 3)) = -2000 := by rw [e9]; rfl
                  refine V_icmp_ne (tgt := 382) dL_isProgram_375 (by decide) ⟨by rw [hd9]; exact ⟨by omega, by omega⟩, ⟨by omega, by omega⟩⟩ (fun c_130 => absurd (hd9) c_130) (fun _ => ?_)
                  refine V_iconst dL_isProgram_378 ?_
                  refine V_goto (tgt := 383) dL_isProgram_379 (by decide) ?_
                  show V K tL_isProgram 8 50 _ _ [.int (zI (bz true))] 383
                  refine V_zret hR rfl (Nat.le_of_ble_eq_true rfl) (Nat.le_of_ble_eq_true rfl) dL_isProgram_383 ?_
                  exact ⟨_, _, _, P, rfl, rfl, e_125, hM, hL, by have h := q_123; rw [e9] at h; exact h⟩
              · have e9 : sp_addRead P (one % (P 0 2 + 1)) (two % (P 0 2 + 1)) (1 + (two / 5) % 9) ((two / 45) % 5) (((two / 225) % 8) - 3) = (1, 0, P) := gd_f (fun h => by have := hb2.mpr ⟨h.1.2, h.2.2⟩; rw [c_126] at this; exact nomatch this)
                refine V_sipush dL_isProgram_339 (by decide) ?_
                refine V_goto (tgt := 375) dL_isProgram_342 (by decide) ?_
                have hd9 : dvl (-3000) (-2000) (-1000) (sp_addRead P (one % (P 0 2 + 1)) (two % (P 0 2 + 1)) (1 + (two / 5) % 9) ((two / 45) % 5) (((two / 225) % 8) - 3)) = -3000 := by rw [e9]; rfl
                refine V_icmp_ne (tgt := 382) dL_isProgram_375 (by decide) ⟨by rw [hd9]; exact ⟨by omega, by omega⟩, ⟨by omega, by omega⟩⟩ (fun c_131 => absurd (hd9) c_131) (fun _ => ?_)
                refine V_iconst dL_isProgram_378 ?_
                refine V_goto (tgt := 383) dL_isProgram_379 (by decide) ?_
                show V K tL_isProgram 8 50 _ _ [.int (zI (bz true))] 383
                refine V_zret hR rfl (Nat.le_of_ble_eq_true rfl) (Nat.le_of_ble_eq_true rfl) dL_isProgram_383 ?_
                exact ⟨_, _, _, P, rfl, rfl, e_125, hM, hL, by have h := q_123; rw [e9] at h; exact h⟩
            · have hc4 := hb4.mp c_120
              have hat := hL.at hsw.1 (show one % (P 0 2 + 1) < 4 by omega)
              have hr4 := rds_b hM hsw.1 (show one % (P 0 2 + 1) < 4 by omega)
              refine V_aload_n dL_isProgram_272 rfl ?_
              refine V_iconst dL_isProgram_273 ?_
              refine V_iload dL_isProgram_274 rfl ?_
              refine V_imul dL_isProgram_276 ?_
              refine V_aload_n dL_isProgram_277 rfl ?_
              refine V_iconst dL_isProgram_278 ?_
              refine V_iload dL_isProgram_279 rfl ?_
              refine V_iadd dL_isProgram_281 ?_
              refine ll_1 ⟨by omega, by omega⟩ dL_isProgram_282 ?_
              refine V_eqT (y := zI (P 4 (one % (P 0 2 + 1)))) (congrArg zI hat.2.1) ?_
              refine V_iadd dL_isProgram_283 ?_
              refine V_iload dL_isProgram_284 rfl ?_
              refine V_bipush dL_isProgram_286 (by decide) ?_
              refine V_iload dL_isProgram_288 rfl ?_
              refine V_imul dL_isProgram_290 ?_
              refine V_iadd dL_isProgram_291 ?_
              refine V_sipush dL_isProgram_292 (by decide) ?_
              refine V_iload dL_isProgram_295 rfl ?_
              refine V_imul dL_isProgram_297 ?_
              refine V_iadd dL_isProgram_298 ?_
              refine V_sipush dL_isProgram_299 (by decide) ?_
              refine V_iload dL_isProgram_302 rfl ?_
              refine V_iconst dL_isProgram_304 ?_
              refine V_iadd dL_isProgram_305 ?_
              refine V_imul dL_isProgram_306 ?_
              refine V_iadd dL_isProgram_307 ?_
              refine ls_2 ⟨by omega, by omega⟩ dL_isProgram_308 ?_
              refine V_aload_n dL_isProgram_309 rfl ?_
              refine V_iconst dL_isProgram_310 ?_
              refine V_iload dL_isProgram_311 rfl ?_
              refine V_iadd dL_isProgram_313 ?_
              refine V_dup2 dL_isProgram_314 rfl rfl ?_
              refine ll_1 ⟨by omega, by omega⟩ dL_isProgram_315 ?_
              refine V_eqT (y := zI (P 4 (one % (P 0 2 + 1)))) (congrArg zI hat.2.1) ?_
              refine V_iconst dL_isProgram_316 ?_
              refine V_iadd dL_isProgram_317 ?_
              refine ls_1 ⟨by omega, by omega⟩ dL_isProgram_318 ?_
              refine V_aload_n dL_isProgram_319 rfl ?_
              refine V_iconst dL_isProgram_320 ?_
              refine V_iload dL_isProgram_321 rfl ?_
              refine V_iload dL_isProgram_323 rfl ?_
              refine V_iload dL_isProgram_325 rfl ?_
              refine V_iload dL_isProgram_327 rfl ?_
              refine V_iload dL_isProgram_329 rfl ?_
              refine V_callSBH (As := [.ref (c 0), .int (zI 1), .int (zI (one % (P 0 2 + 1))), .int (zI (two % (P 0 2 + 1))), .int (zI (1 + (two / 5) % 9)), .int (zI ((two / 45) % 5)), .int (zI (((two / 225) % 8) - 3))]) (wr := (lW b (up (up τ 2 ((4 * (one % (P 0 2 + 1))) + (P 4 (one % (P 0 2 + 1)))) ((((two % (P 0 2 + 1)) + (8 * (1 + (two / 5) % 9))) + (128 * ((two / 45) % 5))) + (1024 * ((((two / 225) % 8) - 3) + 3)))) 1 (4 + (one % (P 0 2 + 1))) ((P 4 (one % (P 0 2 + 1))) + 1)) Y)) (wc := fm (cO en c κ)) rfl hK (d_1 en c κ (one % (P 0 2 + 1)) (two % (P 0 2 + 1)) (1 + (two / 5) % 9) ((two / 45) % 5) (((two / 225) % 8) - 3) P ⟨hM, hC, ⟨by omega, by omega⟩, ⟨by omega, by omega⟩, ⟨by omega, by omega⟩, ⟨by omega, by omega⟩, ⟨by omega, by omega⟩⟩) mokL_does w507 w508 ⟨Nat.le_of_ble_eq_true rfl, Nat.le_of_ble_eq_true rfl⟩ rfl (Nat.le_of_ble_eq_true rfl) ⟨Nat.le_of_ble_eq_true rfl, Nat.le_of_ble_eq_true rfl⟩ dL_isProgram_331 (fun v w p_132 => ?_)
              obtain ⟨c_135, κ_133, rfl, rfl, e_136, q_134⟩ := p_132
              show V K tL_isProgram 8 50 (lW b (up (up τ 2 ((4 * (one % (P 0 2 + 1))) + (P 4 (one % (P 0 2 + 1)))) ((((two % (P 0 2 + 1)) + (8 * (1 + (two / 5) % 9))) + (128 * ((two / 45) % 5))) + (1024 * ((((two / 225) % 8) - 3) + 3)))) 1 (4 + (one % (P 0 2 + 1))) ((P 4 (one % (P 0 2 + 1))) + 1)) (Y ++ fm (cO en c_135 κ_133))) _ [.int (zI (dvl (-3000) (-2000) (-1000) (sp_addRead P (one % (P 0 2 + 1)) (two % (P 0 2 + 1)) (1 + (two / 5) % 9) ((two / 45) % 5) (((two / 225) % 8) - 3))))] 334
              have e9 : sp_addRead P (one % (P 0 2 + 1)) (two % (P 0 2 + 1)) (1 + (two / 5) % 9) ((two / 45) % 5) (((two / 225) % 8) - 3) = (0, P 4 (one % (P 0 2 + 1)), up (up (up (up (up P 5 (4 * (one % (P 0 2 + 1)) + P 4 (one % (P 0 2 + 1))) (two % (P 0 2 + 1))) 6 (4 * (one % (P 0 2 + 1)) + P 4 (one % (P 0 2 + 1))) (1 + (two / 5) % 9)) 7 (4 * (one % (P 0 2 + 1)) + P 4 (one % (P 0 2 + 1))) ((two / 45) % 5)) 8 (4 * (one % (P 0 2 + 1)) + P 4 (one % (P 0 2 + 1))) (((two / 225) % 8) - 3)) 4 (one % (P 0 2 + 1)) (P 4 (one % (P 0 2 + 1)) + 1)) := (gd_t ⟨⟨by omega, by omega⟩, by omega, by omega⟩).trans ((gd_t ⟨⟨by omega, by omega⟩, ⟨by omega, by omega⟩, by omega, by omega⟩).trans (gd_t (by omega)))
              refine V_iload dL_isProgram_334 rfl ?_
              refine V_ifb_ne (tgt := 345) dL_isProgram_336 (by decide) (fun _ => ?_) (fun c_137 => absurd (c_137.symm.trans (hb2.mpr hc4.1)) (by decide))
              refine V_iload dL_isProgram_345 rfl ?_
              refine V_ifb_ne (tgt := 356) dL_isProgram_347 (by decide) (fun _ => ?_) (fun c_138 => absurd (c_138.symm.trans (hb3.mpr hc4.2.1)) (by decide))
              refine V_iload dL_isProgram_356 rfl ?_
              refine V_ifb_eq (tgt := 372) dL_isProgram_358 (by decide) (fun c_139 => absurd (c_139.symm.trans c_120) (by decide)) (fun _ => ?_)
              refine V_aload_n dL_isProgram_361 rfl ?_
              refine V_iconst dL_isProgram_362 ?_
              refine V_iload dL_isProgram_363 rfl ?_
              refine V_iadd dL_isProgram_365 ?_
              refine ll_1 ⟨by omega, by omega⟩ dL_isProgram_366 ?_
              refine V_eqT (y := zI (P 4 (one % (P 0 2 + 1)) + 1)) (by rw [up_eq, fup_eq]) ?_
              refine V_iconst dL_isProgram_367 ?_
              refine V_isub dL_isProgram_368 ?_
              refine V_goto (tgt := 375) dL_isProgram_369 (by decide) ?_
              have hr4 := rds_b hM hsw.1 (show one % (P 0 2 + 1) < 4 by omega)
              have hd9 : dvl (-3000) (-2000) (-1000) (sp_addRead P (one % (P 0 2 + 1)) (two % (P 0 2 + 1)) (1 + (two / 5) % 9) ((two / 45) % 5) (((two / 225) % 8) - 3)) = P 4 (one % (P 0 2 + 1)) := by rw [e9]; rfl
              refine V_icmp_ne (tgt := 382) dL_isProgram_375 (by decide) ⟨by rw [hd9]; exact ⟨by omega, by omega⟩, ⟨by omega, by omega⟩⟩ (fun c_140 => absurd (hd9.trans (by omega)) c_140) (fun _ => ?_)
              refine V_iconst dL_isProgram_378 ?_
              refine V_goto (tgt := 383) dL_isProgram_379 (by decide) ?_
              show V K tL_isProgram 8 50 _ _ [.int (zI (bz true))] 383
              refine V_zret hR rfl (Nat.le_of_ble_eq_true rfl) (Nat.le_of_ble_eq_true rfl) dL_isProgram_383 ?_
              exact ⟨_, _, _, _, rfl, rfl, e_136, by have h := mi_addRead (s := one % (P 0 2 + 1)) (f := two % (P 0 2 + 1)) (m := 1 + (two / 5) % 9) (u := (two / 45) % 5) (l := ((two / 225) % 8) - 3) hM; rw [e9] at h; exact h, hL.addR ⟨by omega, by omega⟩ ⟨by omega, by omega⟩, by have h := q_134; rw [e9] at h; exact h⟩
          refine V_istore (L' := [some (.ref (c 0)), some (.ref (b 0)), some (.ref (b 1)), some (.ref (b 2)), some (.ref (b 3)), some (.int (zI what)), some (.int (zI one)), some (.int (zI two)), some (.int (zI (one % (P 0 2 + 1)))), some (.int (zI (bz b1))), some (.int (zI (two % (P 0 2 + 1)))), some (.int (zI (1 + (two / 5) % 9))), some (.int (zI ((two / 45) % 5))), some (.int (zI (((two / 225) % 8) - 3))), some (.int (zI (bz b2))), some (.int (zI (bz b3))), none]) dL_isProgram_229 (by decide) rfl ?_
          refine V_iload dL_isProgram_231 rfl ?_
          refine V_ifb_eq (tgt := 264) dL_isProgram_233 (by decide) (fun c_141 => ?_) (fun c_141 => ?_)
          · refine V_iconst dL_isProgram_264 ?_
            refine seg_265 false ?_
            · exact ⟨(fun h => nomatch h), fun h => absurd (hb2.mpr h.1) (by rw [c_141]; decide)⟩
          · refine V_iload dL_isProgram_236 rfl ?_
            refine V_ifb_eq (tgt := 264) dL_isProgram_238 (by decide) (fun c_142 => ?_) (fun c_142 => ?_)
            · refine V_iconst dL_isProgram_264 ?_
              refine seg_265 false ?_
              · exact ⟨(fun h => nomatch h), fun h => absurd (hb3.mpr h.2.1) (by rw [c_142]; decide)⟩
            · refine V_aload_n dL_isProgram_241 rfl ?_
              refine V_iconst dL_isProgram_242 ?_
              have hb22 := hb2.mp c_141
              have hat := hL.at hsw.1 (show one % (P 0 2 + 1) < 4 by omega)
              have hr4 := rds_b hM hsw.1 (show one % (P 0 2 + 1) < 4 by omega)
              refine V_iload dL_isProgram_243 rfl ?_
              refine V_ifb_eq (tgt := 253) dL_isProgram_245 (by decide) (fun c_143 => absurd (c_143.symm.trans (hb1.mpr hb22.1)) (by decide)) (fun _ => ?_)
              refine V_iload dL_isProgram_248 rfl ?_
              refine V_goto (tgt := 254) dL_isProgram_250 (by decide) ?_
              refine V_iadd dL_isProgram_254 ?_
              refine ll_1 ⟨by omega, by omega⟩ dL_isProgram_255 ?_
              refine V_eqT (y := zI (P 4 (one % (P 0 2 + 1)))) (congrArg zI hat.2.1) ?_
              refine V_iconst dL_isProgram_256 ?_
              refine V_icmp_ge (tgt := 264) dL_isProgram_257 (by decide) ⟨⟨by omega, by omega⟩, ⟨by omega, by omega⟩⟩ (fun c_144 => ?_) (fun c_144 => ?_)
              · refine V_iconst dL_isProgram_264 ?_
                refine seg_265 false ?_
                · exact ⟨(fun h => nomatch h), fun h => absurd h.2.2 (by omega)⟩
              · refine V_iconst dL_isProgram_260 ?_
                refine V_goto (tgt := 265) dL_isProgram_261 (by decide) ?_
                refine seg_265 true ?_
                · exact ⟨fun _ => ⟨hb2.mp c_141, hb3.mp c_142, by omega⟩, fun _ => rfl⟩
        refine V_istore (L' := [some (.ref (c 0)), some (.ref (b 0)), some (.ref (b 1)), some (.ref (b 2)), some (.ref (b 3)), some (.int (zI what)), some (.int (zI one)), some (.int (zI two)), some (.int (zI (one % (P 0 2 + 1)))), some (.int (zI (bz b1))), some (.int (zI (two % (P 0 2 + 1)))), some (.int (zI (1 + (two / 5) % 9))), some (.int (zI ((two / 45) % 5))), some (.int (zI (((two / 225) % 8) - 3))), some (.int (zI (bz b2))), none, none]) dL_isProgram_210 (by decide) rfl ?_
        refine V_iload dL_isProgram_212 rfl ?_
        refine V_iconst dL_isProgram_214 ?_
        refine V_icmp_ge (tgt := 228) dL_isProgram_215 (by decide) ⟨⟨by omega, by omega⟩, ⟨by omega, by omega⟩⟩ (fun c_145 => ?_) (fun c_145 => ?_)
        · refine V_iconst dL_isProgram_228 ?_
          refine seg_229 false ?_
          · exact ⟨(fun h => nomatch h), fun h => absurd h.1 (by omega)⟩
        · refine V_iload dL_isProgram_218 rfl ?_
          refine V_iconst dL_isProgram_220 ?_
          refine V_icmp_ge (tgt := 228) dL_isProgram_221 (by decide) ⟨⟨by omega, by omega⟩, ⟨by omega, by omega⟩⟩ (fun c_146 => ?_) (fun c_146 => ?_)
          · refine V_iconst dL_isProgram_228 ?_
            refine seg_229 false ?_
            · exact ⟨(fun h => nomatch h), fun h => absurd h.2 (by omega)⟩
          · refine V_iconst dL_isProgram_224 ?_
            refine V_goto (tgt := 229) dL_isProgram_225 (by decide) ?_
            refine seg_229 true ?_
            · exact ⟨fun _ => ⟨by omega, by omega⟩, fun _ => rfl⟩
      refine V_iload dL_isProgram_149 rfl ?_
      refine V_aload_n dL_isProgram_151 rfl ?_
      refine V_iconst dL_isProgram_152 ?_
      refine ll_0 ⟨by omega, by omega⟩ dL_isProgram_153 ?_
      refine V_eqT (y := zI (P 0 2)) (congrArg zI (LR.g2 hL)) ?_
      refine V_iconst dL_isProgram_154 ?_
      refine V_iadd dL_isProgram_155 ?_
      refine V_iremN dL_isProgram_156 ⟨⟨by omega, by omega⟩, ⟨by omega, by omega⟩, by omega, by omega⟩ ?_
      refine V_istore (L' := [some (.ref (c 0)), some (.ref (b 0)), some (.ref (b 1)), some (.ref (b 2)), some (.ref (b 3)), some (.int (zI what)), some (.int (zI one)), some (.int (zI two)), some (.int (zI (one % (P 0 2 + 1)))), some (.int (zI (bz b1))), some (.int (zI (two % ((P 0 2) + 1)))), none, none, none, none, none, none]) dL_isProgram_157 (by decide) rfl ?_
      refine V_iconst dL_isProgram_159 ?_
      refine V_iload dL_isProgram_160 rfl ?_
      refine V_iconst dL_isProgram_162 ?_
      refine V_idiv dL_isProgram_163 ⟨⟨by omega, by omega⟩, ⟨by omega, by omega⟩, by omega, by omega⟩ ?_
      refine V_bipush dL_isProgram_164 (by decide) ?_
      refine V_iremN dL_isProgram_166 ⟨⟨by omega, by omega⟩, ⟨by omega, by omega⟩, by omega, by omega⟩ ?_
      refine V_iadd dL_isProgram_167 ?_
      refine V_istore (L' := [some (.ref (c 0)), some (.ref (b 0)), some (.ref (b 1)), some (.ref (b 2)), some (.ref (b 3)), some (.int (zI what)), some (.int (zI one)), some (.int (zI two)), some (.int (zI (one % (P 0 2 + 1)))), some (.int (zI (bz b1))), some (.int (zI (two % ((P 0 2) + 1)))), some (.int (zI (1 + ((two / 5) % 9)))), none, none, none, none, none]) dL_isProgram_168 (by decide) rfl ?_
      refine V_iload dL_isProgram_170 rfl ?_
      refine V_bipush dL_isProgram_172 (by decide) ?_
      refine V_idiv dL_isProgram_174 ⟨⟨by omega, by omega⟩, ⟨by omega, by omega⟩, by omega, by omega⟩ ?_
      refine V_iconst dL_isProgram_175 ?_
      refine V_iremN dL_isProgram_176 ⟨⟨by omega, by omega⟩, ⟨by omega, by omega⟩, by omega, by omega⟩ ?_
      refine V_istore (L' := [some (.ref (c 0)), some (.ref (b 0)), some (.ref (b 1)), some (.ref (b 2)), some (.ref (b 3)), some (.int (zI what)), some (.int (zI one)), some (.int (zI two)), some (.int (zI (one % (P 0 2 + 1)))), some (.int (zI (bz b1))), some (.int (zI (two % ((P 0 2) + 1)))), some (.int (zI (1 + ((two / 5) % 9)))), some (.int (zI ((two / 45) % 5))), none, none, none, none]) dL_isProgram_177 (by decide) rfl ?_
      refine V_iload dL_isProgram_179 rfl ?_
      refine V_sipush dL_isProgram_181 (by decide) ?_
      refine V_idiv dL_isProgram_184 ⟨⟨by omega, by omega⟩, ⟨by omega, by omega⟩, by omega, by omega⟩ ?_
      refine V_bipush dL_isProgram_185 (by decide) ?_
      refine V_iremN dL_isProgram_187 ⟨⟨by omega, by omega⟩, ⟨by omega, by omega⟩, by omega, by omega⟩ ?_
      refine V_iconst dL_isProgram_188 ?_
      refine V_isub dL_isProgram_189 ?_
      refine V_istore (L' := [some (.ref (c 0)), some (.ref (b 0)), some (.ref (b 1)), some (.ref (b 2)), some (.ref (b 3)), some (.int (zI what)), some (.int (zI one)), some (.int (zI two)), some (.int (zI (one % (P 0 2 + 1)))), some (.int (zI (bz b1))), some (.int (zI (two % ((P 0 2) + 1)))), some (.int (zI (1 + ((two / 5) % 9)))), some (.int (zI ((two / 45) % 5))), some (.int (zI (((two / 225) % 8) - 3))), none, none, none]) dL_isProgram_190 (by decide) rfl ?_
      refine V_iload dL_isProgram_192 rfl ?_
      refine V_ifb_eq (tgt := 209) dL_isProgram_194 (by decide) (fun c_147 => ?_) (fun c_147 => ?_)
      · refine V_iconst dL_isProgram_209 ?_
        refine seg_210 false ?_
        · exact ⟨(fun h => nomatch h), fun h => absurd (hb1.mpr h.1) (by rw [c_147]; decide)⟩
      · refine V_iload dL_isProgram_197 rfl ?_
        refine V_aload_n dL_isProgram_199 rfl ?_
        refine V_iconst dL_isProgram_200 ?_
        refine ll_0 ⟨by omega, by omega⟩ dL_isProgram_201 ?_
        refine V_eqT (y := zI (P 0 2)) (congrArg zI (LR.g2 hL)) ?_
        refine V_icmp_ge (tgt := 209) dL_isProgram_202 (by decide) ⟨⟨by omega, by omega⟩, ⟨by omega, by omega⟩⟩ (fun c_148 => ?_) (fun c_148 => ?_)
        · refine V_iconst dL_isProgram_209 ?_
          refine seg_210 false ?_
          · exact ⟨(fun h => nomatch h), fun h => absurd h.2 (by omega)⟩
        · refine V_iconst dL_isProgram_205 ?_
          refine V_goto (tgt := 210) dL_isProgram_206 (by decide) ?_
          refine seg_210 true ?_
          · exact ⟨fun _ => ⟨hb1.mp c_147, c_148⟩, fun _ => rfl⟩
    have seg_30 : V K tL_isProgram 0 0 (lW b τ (Y ++ fm (cO en c κ))) [some (.ref (c 0)), some (.ref (b 0)), some (.ref (b 1)), some (.ref (b 2)), some (.ref (b 3)), some (.int (zI what)), some (.int (zI one)), some (.int (zI two)), some (.int (zI (one % (P 0 2 + 1)))), some (.int (zI (bz b1))), none, none, none, none, none, none, none] [] 30 := by
      refine V_iload dL_isProgram_30 rfl ?_
      refine V_bipush dL_isProgram_32 (by decide) ?_
      refine V_iremN dL_isProgram_34 ⟨⟨by omega, by omega⟩, ⟨by omega, by omega⟩, by omega, by omega⟩ ?_
      refine V_istore (L' := [some (.ref (c 0)), some (.ref (b 0)), some (.ref (b 1)), some (.ref (b 2)), some (.ref (b 3)), some (.int (zI what)), some (.int (zI one)), some (.int (zI two)), some (.int (zI (one % (P 0 2 + 1)))), some (.int (zI (bz b1))), some (.int (zI (two % 101))), none, none, none, none, none, none]) dL_isProgram_35 (by decide) rfl ?_
      refine V_iload dL_isProgram_37 rfl ?_
      refine V_bipush dL_isProgram_39 (by decide) ?_
      refine V_icmp_ge (tgt := 55) dL_isProgram_41 (by decide) ⟨⟨by omega, by omega⟩, ⟨by omega, by omega⟩⟩ (fun c_149 => ?_) (fun c_149 => ?_)
      · refine V_iconst dL_isProgram_55 ?_
        refine V_istore (L' := [some (.ref (c 0)), some (.ref (b 0)), some (.ref (b 1)), some (.ref (b 2)), some (.ref (b 3)), some (.int (zI what)), some (.int (zI one)), some (.int (zI two)), some (.int (zI (one % (P 0 2 + 1)))), some (.int (zI (bz b1))), some (.int (zI (two % 101))), some (.int (zI 0)), none, none, none, none, none]) dL_isProgram_56 (by decide) rfl ?_
        refine V_iload dL_isProgram_58 rfl ?_
        refine V_if_eq (tgt := 94) dL_isProgram_60 (by decide) ⟨by decide, by decide⟩ (fun _ => ?_) (fun h => absurd h (by decide))
        refine V_aload_n dL_isProgram_94 rfl ?_
        refine V_iconst dL_isProgram_95 ?_
        refine V_iload dL_isProgram_96 rfl ?_
        refine V_iconst dL_isProgram_98 ?_
        refine V_iconst dL_isProgram_99 ?_
        refine V_iconst dL_isProgram_100 ?_
        refine V_iconst dL_isProgram_101 ?_
        refine V_callSBH (As := [.ref (c 0), .int (zI 0), .int (zI (two % 101)), .int (zI 0), .int (zI 0), .int (zI 0), .int (zI 0)]) (wr := (lW b τ Y)) (wc := fm (cO en c κ)) rfl hK (d_0 en c κ (two % 101) 0 0 0 0 P ⟨hM, hC, ⟨by omega, by omega⟩⟩) mokL_does w507 w508 ⟨Nat.le_of_ble_eq_true rfl, Nat.le_of_ble_eq_true rfl⟩ rfl (Nat.le_of_ble_eq_true rfl) ⟨Nat.le_of_ble_eq_true rfl, Nat.le_of_ble_eq_true rfl⟩ dL_isProgram_102 (fun v w p_151 => ?_)
        obtain ⟨c_154, κ_152, rfl, rfl, e_155, q_153⟩ := p_151
        show V K tL_isProgram 8 50 (lW b τ (Y ++ fm (cO en c_154 κ_152))) _ [.int (zI (dvl (-2000) (-1000) 0 (sp_addStatement P (two % 101))))] 105
        have e_156 : sp_addStatement P (two % 101) = (1, 0, P) := gd_f (fun h => by have := h.2; omega)
        rw [e_156] at q_153
        refine V_eqT (y := zI (-2000)) (by rw [e_156]; rfl) ?_
        show V K tL_isProgram 8 50 (lW b τ (Y ++ fm (cO en c_154 κ_152))) _ [.int (zI (-2000))] 105
        refine V_iload dL_isProgram_105 rfl ?_
        refine V_bipush dL_isProgram_107 (by decide) ?_
        refine V_icmp_ne (tgt := 118) dL_isProgram_109 (by decide) ⟨⟨by omega, by omega⟩, ⟨by omega, by omega⟩⟩ (fun c_157 => absurd c_157 (by omega)) (fun _ => ?_)
        refine V_sipush dL_isProgram_112 (by decide) ?_
        refine V_goto (tgt := 134) dL_isProgram_115 (by decide) ?_
        refine V_icmp_ne (tgt := 141) dL_isProgram_134 (by decide) ⟨⟨by decide, by decide⟩, ⟨by decide, by decide⟩⟩ (fun h => absurd h (by decide)) (fun _ => ?_)
        refine V_iconst dL_isProgram_137 ?_
        refine V_goto (tgt := 142) dL_isProgram_138 (by decide) ?_
        show V K tL_isProgram 8 50 _ _ [.int (zI (bz true))] 142
        refine V_zret hR rfl (Nat.le_of_ble_eq_true rfl) (Nat.le_of_ble_eq_true rfl) dL_isProgram_142 ?_
        exact ⟨_, _, _, P, rfl, rfl, e_155, hM, hL, q_153⟩
      · refine V_aload_n dL_isProgram_44 rfl ?_
        refine V_iconst dL_isProgram_45 ?_
        refine ll_0 ⟨by omega, by omega⟩ dL_isProgram_46 ?_
        refine V_eqT (y := zI (P 0 2)) (congrArg zI (LR.g2 hL)) ?_
        refine V_iconst dL_isProgram_47 ?_
        refine V_icmp_ge (tgt := 55) dL_isProgram_48 (by decide) ⟨⟨by omega, by omega⟩, ⟨by omega, by omega⟩⟩ (fun c_159 => ?_) (fun c_159 => ?_)
        · refine V_iconst dL_isProgram_55 ?_
          refine V_istore (L' := [some (.ref (c 0)), some (.ref (b 0)), some (.ref (b 1)), some (.ref (b 2)), some (.ref (b 3)), some (.int (zI what)), some (.int (zI one)), some (.int (zI two)), some (.int (zI (one % (P 0 2 + 1)))), some (.int (zI (bz b1))), some (.int (zI (two % 101))), some (.int (zI 0)), none, none, none, none, none]) dL_isProgram_56 (by decide) rfl ?_
          refine V_iload dL_isProgram_58 rfl ?_
          refine V_if_eq (tgt := 94) dL_isProgram_60 (by decide) ⟨by decide, by decide⟩ (fun _ => ?_) (fun h => absurd h (by decide))
          refine V_aload_n dL_isProgram_94 rfl ?_
          refine V_iconst dL_isProgram_95 ?_
          refine V_iload dL_isProgram_96 rfl ?_
          refine V_iconst dL_isProgram_98 ?_
          refine V_iconst dL_isProgram_99 ?_
          refine V_iconst dL_isProgram_100 ?_
          refine V_iconst dL_isProgram_101 ?_
          refine V_callSBH (As := [.ref (c 0), .int (zI 0), .int (zI (two % 101)), .int (zI 0), .int (zI 0), .int (zI 0), .int (zI 0)]) (wr := (lW b τ Y)) (wc := fm (cO en c κ)) rfl hK (d_0 en c κ (two % 101) 0 0 0 0 P ⟨hM, hC, ⟨by omega, by omega⟩⟩) mokL_does w507 w508 ⟨Nat.le_of_ble_eq_true rfl, Nat.le_of_ble_eq_true rfl⟩ rfl (Nat.le_of_ble_eq_true rfl) ⟨Nat.le_of_ble_eq_true rfl, Nat.le_of_ble_eq_true rfl⟩ dL_isProgram_102 (fun v w p_161 => ?_)
          obtain ⟨c_164, κ_162, rfl, rfl, e_165, q_163⟩ := p_161
          show V K tL_isProgram 8 50 (lW b τ (Y ++ fm (cO en c_164 κ_162))) _ [.int (zI (dvl (-2000) (-1000) 0 (sp_addStatement P (two % 101))))] 105
          have e_166 : sp_addStatement P (two % 101) = (2, 0, P) := (gd_t ⟨by omega, by omega⟩).trans (gd_f (fun h => h (by omega)))
          rw [e_166] at q_163
          refine V_eqT (y := zI (-1000)) (by rw [e_166]; rfl) ?_
          show V K tL_isProgram 8 50 (lW b τ (Y ++ fm (cO en c_164 κ_162))) _ [.int (zI (-1000))] 105
          refine V_iload dL_isProgram_105 rfl ?_
          refine V_bipush dL_isProgram_107 (by decide) ?_
          refine V_icmp_ne (tgt := 118) dL_isProgram_109 (by decide) ⟨⟨by omega, by omega⟩, ⟨by omega, by omega⟩⟩ (fun _ => ?_) (fun c_167 => absurd c_167 (by omega))
          refine V_iload dL_isProgram_118 rfl ?_
          refine V_if_eq (tgt := 131) dL_isProgram_120 (by decide) ⟨by decide, by decide⟩ (fun _ => ?_) (fun h => absurd h (by decide))
          refine V_sipush dL_isProgram_131 (by decide) ?_
          refine V_icmp_ne (tgt := 141) dL_isProgram_134 (by decide) ⟨⟨by decide, by decide⟩, ⟨by decide, by decide⟩⟩ (fun h => absurd h (by decide)) (fun _ => ?_)
          refine V_iconst dL_isProgram_137 ?_
          refine V_goto (tgt := 142) dL_isProgram_138 (by decide) ?_
          show V K tL_isProgram 8 50 _ _ [.int (zI (bz true))] 142
          refine V_zret hR rfl (Nat.le_of_ble_eq_true rfl) (Nat.le_of_ble_eq_true rfl) dL_isProgram_142 ?_
          exact ⟨_, _, _, P, rfl, rfl, e_165, hM, hL, q_163⟩
        · refine V_iconst dL_isProgram_51 ?_
          refine V_goto (tgt := 56) dL_isProgram_52 (by decide) ?_
          refine V_istore (L' := [some (.ref (c 0)), some (.ref (b 0)), some (.ref (b 1)), some (.ref (b 2)), some (.ref (b 3)), some (.int (zI what)), some (.int (zI one)), some (.int (zI two)), some (.int (zI (one % (P 0 2 + 1)))), some (.int (zI (bz b1))), some (.int (zI (two % 101))), some (.int (zI 1)), none, none, none, none, none]) dL_isProgram_56 (by decide) rfl ?_
          refine V_iload dL_isProgram_58 rfl ?_
          refine V_if_eq (tgt := 94) dL_isProgram_60 (by decide) ⟨by decide, by decide⟩ (fun h => absurd h (by decide)) (fun _ => ?_)
          refine V_aload_n dL_isProgram_63 rfl ?_
          refine V_aload_n dL_isProgram_64 rfl ?_
          refine V_iconst dL_isProgram_65 ?_
          refine ll_0 ⟨by omega, by omega⟩ dL_isProgram_66 ?_
          refine V_eqT (y := zI (P 0 2)) (congrArg zI (LR.g2 hL)) ?_
          refine V_iload dL_isProgram_67 rfl ?_
          refine ls_1 ⟨by omega, by omega⟩ dL_isProgram_69 ?_
          refine V_aload_n dL_isProgram_70 rfl ?_
          refine V_iconst dL_isProgram_71 ?_
          refine V_aload_n dL_isProgram_72 rfl ?_
          refine V_iconst dL_isProgram_73 ?_
          refine ll_0 ⟨by omega, by omega⟩ dL_isProgram_74 ?_
          refine V_eqT (y := zI (P 0 2)) (congrArg zI hL.g2) ?_
          refine V_iadd dL_isProgram_75 ?_
          refine V_iconst dL_isProgram_76 ?_
          refine ls_1 ⟨by omega, by omega⟩ dL_isProgram_77 ?_
          refine V_aload_n dL_isProgram_78 rfl ?_
          refine V_bipush dL_isProgram_79 (by decide) ?_
          refine V_aload_n dL_isProgram_81 rfl ?_
          refine V_iconst dL_isProgram_82 ?_
          refine ll_0 ⟨by omega, by omega⟩ dL_isProgram_83 ?_
          refine V_eqT (y := zI (P 0 2)) (congrArg zI hL.g2) ?_
          refine V_iadd dL_isProgram_84 ?_
          refine V_iconst dL_isProgram_85 ?_
          refine ls_1 ⟨by omega, by omega⟩ dL_isProgram_86 ?_
          refine V_aload_n dL_isProgram_87 rfl ?_
          refine V_iconst dL_isProgram_88 ?_
          refine V_dup2 dL_isProgram_89 rfl rfl ?_
          refine ll_0 ⟨by omega, by omega⟩ dL_isProgram_90 ?_
          refine V_eqT (y := zI (P 0 2)) (congrArg zI hL.g2) ?_
          refine V_iconst dL_isProgram_91 ?_
          refine V_iadd dL_isProgram_92 ?_
          refine ls_0 ⟨by omega, by omega⟩ dL_isProgram_93 ?_
          refine V_aload_n dL_isProgram_94 rfl ?_
          refine V_iconst dL_isProgram_95 ?_
          refine V_iload dL_isProgram_96 rfl ?_
          refine V_iconst dL_isProgram_98 ?_
          refine V_iconst dL_isProgram_99 ?_
          refine V_iconst dL_isProgram_100 ?_
          refine V_iconst dL_isProgram_101 ?_
          refine V_callSBH (As := [.ref (c 0), .int (zI 0), .int (zI (two % 101)), .int (zI 0), .int (zI 0), .int (zI 0), .int (zI 0)]) (wr := (lW b (up (up (up (up τ 1 (P 0 2) (two % 101)) 1 (4 + (P 0 2)) 0) 1 (16 + (P 0 2)) 0) 0 2 ((P 0 2) + 1)) Y)) (wc := fm (cO en c κ)) rfl hK (d_0 en c κ (two % 101) 0 0 0 0 P ⟨hM, hC, ⟨by omega, by omega⟩⟩) mokL_does w507 w508 ⟨Nat.le_of_ble_eq_true rfl, Nat.le_of_ble_eq_true rfl⟩ rfl (Nat.le_of_ble_eq_true rfl) ⟨Nat.le_of_ble_eq_true rfl, Nat.le_of_ble_eq_true rfl⟩ dL_isProgram_102 (fun v w p_171 => ?_)
          obtain ⟨c_174, κ_172, rfl, rfl, e_175, q_173⟩ := p_171
          show V K tL_isProgram 8 50 (lW b (up (up (up (up τ 1 (P 0 2) (two % 101)) 1 (4 + (P 0 2)) 0) 1 (16 + (P 0 2)) 0) 0 2 ((P 0 2) + 1)) (Y ++ fm (cO en c_174 κ_172))) _ [.int (zI (dvl (-2000) (-1000) 0 (sp_addStatement P (two % 101))))] 105
          have e_176 : sp_addStatement P (two % 101) = (0, P 0 2, up (up (up P 3 (P 0 2) (two % 101)) 13 (P 0 2) 0) 0 2 (P 0 2 + 1)) := (gd_t ⟨by omega, by omega⟩).trans (gd_t (by omega))
          rw [e_176] at q_173
          refine V_eqT (y := zI (P 0 2)) (by rw [e_176]; rfl) ?_
          show V K tL_isProgram 8 50 (lW b (up (up (up (up τ 1 (P 0 2) (two % 101)) 1 (4 + (P 0 2)) 0) 1 (16 + (P 0 2)) 0) 0 2 ((P 0 2) + 1)) (Y ++ fm (cO en c_174 κ_172))) _ [.int (zI (P 0 2))] 105
          refine V_iload dL_isProgram_105 rfl ?_
          refine V_bipush dL_isProgram_107 (by decide) ?_
          refine V_icmp_ne (tgt := 118) dL_isProgram_109 (by decide) ⟨⟨by omega, by omega⟩, ⟨by omega, by omega⟩⟩ (fun _ => ?_) (fun c_177 => absurd c_177 (by omega))
          refine V_iload dL_isProgram_118 rfl ?_
          refine V_if_eq (tgt := 131) dL_isProgram_120 (by decide) ⟨by decide, by decide⟩ (fun h => absurd h (by decide)) (fun _ => ?_)
          refine V_aload_n dL_isProgram_123 rfl ?_
          refine V_iconst dL_isProgram_124 ?_
          refine ll_0 ⟨by omega, by omega⟩ dL_isProgram_125 ?_
          refine V_eqT (y := zI (P 0 2 + 1)) (rfl) ?_
          refine V_iconst dL_isProgram_126 ?_
          refine V_isub dL_isProgram_127 ?_
          refine V_goto (tgt := 134) dL_isProgram_128 (by decide) ?_
          refine V_icmp_ne (tgt := 141) dL_isProgram_134 (by decide) ⟨⟨by omega, by omega⟩, ⟨by omega, by omega⟩⟩ (fun c_179 => absurd (by omega) c_179) (fun _ => ?_)
          refine V_iconst dL_isProgram_137 ?_
          refine V_goto (tgt := 142) dL_isProgram_138 (by decide) ?_
          show V K tL_isProgram 8 50 _ _ [.int (zI (bz true))] 142
          refine V_zret hR rfl (Nat.le_of_ble_eq_true rfl) (Nat.le_of_ble_eq_true rfl) dL_isProgram_142 ?_
          exact ⟨_, _, _, _, rfl, rfl, e_175, by have h := mi_addStatement (x := two % 101) hM; rw [e_176] at h; exact h, hL.addS hM (by omega) _, q_173⟩
    refine V_istore (L' := [some (.ref (c 0)), some (.ref (b 0)), some (.ref (b 1)), some (.ref (b 2)), some (.ref (b 3)), some (.int (zI what)), some (.int (zI one)), some (.int (zI two)), some (.int (zI (one % (P 0 2 + 1)))), some (.int (zI (bz b1))), none, none, none, none, none, none, none]) dL_isProgram_23 (by decide) rfl ?_
    refine V_iload dL_isProgram_25 rfl ?_
    refine V_if_ne (tgt := 143) dL_isProgram_27 (by decide) ⟨by omega, by omega⟩ (fun c_180 => ?_) (fun c_180 => ?_)
    · refine V_iload dL_isProgram_143 rfl ?_
      refine V_iconst dL_isProgram_145 ?_
      refine V_icmp_ge (tgt := 384) dL_isProgram_146 (by decide) ⟨⟨by omega, by omega⟩, ⟨by omega, by omega⟩⟩ (fun c_181 => ?_) (fun c_181 => ?_)
      · refine V_iload dL_isProgram_384 rfl ?_
        refine V_iconst dL_isProgram_386 ?_
        refine V_icmp_ne (tgt := 457) dL_isProgram_387 (by decide) ⟨⟨by omega, by omega⟩, ⟨by omega, by omega⟩⟩ (fun c_182 => ?_) (fun c_182 => ?_)
        · refine V_iload dL_isProgram_457 rfl ?_
          refine V_bipush dL_isProgram_459 (by decide) ?_
          refine V_icmp_ne (tgt := 539) dL_isProgram_461 (by decide) ⟨⟨by omega, by omega⟩, ⟨by omega, by omega⟩⟩ (fun c_183 => ?_) (fun c_183 => ?_)
          · refine V_iload dL_isProgram_539 rfl ?_
            refine V_bipush dL_isProgram_541 (by decide) ?_
            refine V_icmp_ne (tgt := 608) dL_isProgram_543 (by decide) ⟨⟨by omega, by omega⟩, ⟨by omega, by omega⟩⟩ (fun c_184 => ?_) (fun c_184 => ?_)
            · refine V_iload dL_isProgram_608 rfl ?_
              refine V_bipush dL_isProgram_610 (by decide) ?_
              refine V_icmp_ge (tgt := 709) dL_isProgram_612 (by decide) ⟨⟨by omega, by omega⟩, ⟨by omega, by omega⟩⟩ (fun c_185 => ?_) (fun c_185 => ?_)
              · refine seg_709  
              · refine seg_615  
            · refine seg_546  
          · refine seg_464  
        · refine seg_390  
      · refine seg_149  
    · refine seg_30  
  refine V_iload dL_isProgram_0 rfl ?_
  refine V_aload_n dL_isProgram_2 rfl ?_
  refine V_iconst dL_isProgram_3 ?_
  refine ll_0 ⟨by omega, by omega⟩ dL_isProgram_4 ?_
  refine V_eqT (y := zI (P 0 2)) (congrArg zI (LR.g2 hL)) ?_
  refine V_iconst dL_isProgram_5 ?_
  refine V_iadd dL_isProgram_6 ?_
  refine V_iremN dL_isProgram_7 ⟨⟨by omega, by omega⟩, ⟨by omega, by omega⟩, by omega, by omega⟩ ?_
  refine V_istore (L' := [some (.ref (c 0)), some (.ref (b 0)), some (.ref (b 1)), some (.ref (b 2)), some (.ref (b 3)), some (.int (zI what)), some (.int (zI one)), some (.int (zI two)), some (.int (zI (one % ((P 0 2) + 1)))), none, none, none, none, none, none, none, none]) dL_isProgram_8 (by decide) rfl ?_
  refine V_iload dL_isProgram_10 rfl ?_
  refine V_aload_n dL_isProgram_12 rfl ?_
  refine V_iconst dL_isProgram_13 ?_
  refine ll_0 ⟨by omega, by omega⟩ dL_isProgram_14 ?_
  refine V_eqT (y := zI (P 0 2)) (congrArg zI (LR.g2 hL)) ?_
  refine V_icmp_ge (tgt := 22) dL_isProgram_15 (by decide) ⟨⟨by omega, by omega⟩, ⟨by omega, by omega⟩⟩ (fun c_186 => ?_) (fun c_186 => ?_)
  · refine V_iconst dL_isProgram_22 ?_
    refine seg_23 false ?_
    · exact ⟨(fun h => nomatch h), fun h => absurd h (by omega)⟩
  · refine V_iconst dL_isProgram_18 ?_
    refine V_goto (tgt := 23) dL_isProgram_19 (by decide) ?_
    refine seg_23 true ?_
    · exact ⟨fun _ => by omega, fun _ => rfl⟩

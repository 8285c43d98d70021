/-! the class: what several calls share -/
theorem wsz_sz {P κ : St} (hM : MI P) {s : Int} (hs : 0 ≤ s ∧ s < P 0 2) (h : WR1 P κ s) : wsz κ s (pt P) = sz P s := by
  obtain ⟨⟨h1, h2, h3, h4⟩, hb⟩ := h
  have hw := hM.mw hs.1 (by have := hM.2.2.1; omega)
  unfold wsz sz
  rw [h1]
  rcases hw with hw | ⟨hw, w1⟩ | ⟨hw, w1⟩ | ⟨hw, w1⟩
  · rw [if_pos hw, if_pos hw]
  · rw [if_neg (by omega), if_neg (by omega), if_neg (by omega), if_neg (by omega), if_pos hw, h2 hw]
  · rw [if_neg (by omega), if_pos hw, if_neg (by omega), if_pos hw, (h3 hw).1, (h3 hw).2]
  · rw [if_neg (by omega), if_neg (by omega), if_neg (by omega), if_neg (by omega), if_neg (by omega), (h4 hw).2]
def noD : Int → Int → Prop := fun _ _ => False
theorem PQ_DP {P : St} {bw cw s x y : Int} : PQ P bw cw s s x y ↔ DP P bw cw s x y := by
  unfold PQ DP
  constructor
  · rintro ⟨h1, h2, h3, h4⟩; exact ⟨h1.1, h3 rfl, h2.2, h4⟩
  · rintro ⟨h1, h2, h3, h4⟩; exact ⟨⟨h1, by omega⟩, ⟨by omega, h3⟩, fun _ => h2, h4⟩
theorem gD_iff {P : St} {bw cw s r d : Int} : gD P bw cw s s noD r d ↔ ∃ x y, DP P bw cw s x y ∧ dR P x y = r ∧ dC P x y = d := by
  constructor
  · rintro (h | ⟨x, y, h1, h2⟩)
    · exact h.elim
    · exact ⟨x, y, PQ_DP.mp h1, h2⟩
  · rintro ⟨x, y, h1, h2⟩
    exact Or.inr ⟨x, y, PQ_DP.mpr h1, h2⟩
theorem rD_iff {P : St} (hM : MI P) {bw cw s m : Int} : rD P (gD P bw cw s s noD) m ↔ rOK P bw cw s m := by
  constructor
  · intro h x y hxy
    have := h _ _ (gD_iff.mpr ⟨x, y, hxy, rfl, rfl⟩)
    rw [(d_b hM hxy.1 hxy.2.1 hxy.2.2.1).2.2.1] at this
    exact this
  · intro h r d hrd
    obtain ⟨x, y, hxy, rfl, rfl⟩ := gD_iff.mp hrd
    rw [(d_b hM hxy.1 hxy.2.1 hxy.2.2.1).2.2.1]
    exact h x y hxy
theorem tD_iff {P : St} {bw cw s a b : Int} : tD (gD P bw cw s s noD) a b ↔ tOK P bw cw s a b := by
  constructor
  · intro h x y hxy
    exact h _ _ (gD_iff.mpr ⟨x, y, hxy, rfl, rfl⟩)
  · intro h r d hrd
    obtain ⟨x, y, hxy, rfl, rfl⟩ := gD_iff.mp hrd
    exact h x y hxy
theorem sD_iff {P : St} {bw cw s l m : Int} : sD (gD P bw cw s s noD) l m ↔ sOK P bw cw s l m := by
  constructor
  · intro h x y hxy
    exact h _ _ (gD_iff.mpr ⟨x, y, hxy, rfl, rfl⟩)
  · intro h r d hrd
    obtain ⟨x, y, hxy, rfl, rfl⟩ := gD_iff.mp hrd
    exact h x y hxy
theorem IsLst.congr {p q : Int → Prop} {lo m : Int} (h : IsLst p lo m) (hq : ∀ k, p k ↔ q k) : IsLst q lo m := ⟨h.1, (hq m).mp h.2.1, fun j a b z => h.2.2 j a b ((hq j).mpr z)⟩
theorem lr_spec {P : St} (hM : MI P) (bw cw s : Int) : IsLst (rOK P bw cw s) 1 (lr P bw cw s) := (lst_spec (n := 63) (by decide) (rOK_64 hM bw cw s)).1
theorem LRs.lr {P κ2 : St} (hM : MI P) {bw cw s x i : Int} (h : LRs P (gD P bw cw s s noD) x i κ2) : x = lr P bw cw s ∧ κ2 39 i = 1 ∧ κ2 40 i = x := by
  have hb := lr_b hM bw cw s
  have hl := lr_spec hM bw cw s
  rcases h with ⟨⟨h1, h2⟩, h3, h4⟩ | ⟨h1, h2⟩
  · exact ⟨(h1.congr (fun k => rD_iff hM)).uniq hl, h3, h4⟩
  · exact absurd ((rD_iff hM).mpr hl.2.1) (h2 _ hb.1 (by omega))
theorem IsT.two {P : St} {bw cw s a b : Int} (h : IsT P (gD P bw cw s s noD) a b) : a = tw1 P bw cw s ∧ b = tw2 P bw cw s := two_eq ⟨h.1, tD_iff.mp h.2.1, fun a2 b2 h1 h2 h3 => h.2.2 a2 b2 h1 h2 (tD_iff.mpr h3)⟩
theorem SRs.ls {P κ2 : St} (hM : MI P) {bw cw s i : Int} (h : SRs (gD P bw cw s s noD) i κ2) : κ2 40 i = ls P bw cw s / 10 ∧ κ2 43 i = ls P bw cw s % 10 := by
  have hl := (ls_spec hM bw cw s).1
  have e := (h.1.congr (q := fun k => sOK P bw cw s (k % 10) (k / 10)) (fun k => sD_iff)).uniq hl
  have := h.2.2
  omega
theorem tD_all {P : St} (hM : MI P) {bw cw s : Int} : tD (gD P bw cw s s noD) (P 0 0) (P 0 1) := by
  intro r d hrd
  obtain ⟨x, y, hxy, rfl, rfl⟩ := gD_iff.mp hrd
  obtain ⟨h1, h2, h3, -⟩ := d_b hM hxy.1 hxy.2.1 hxy.2.2.1
  rw [tmod_small (by omega) h1.2, tmod_small h2.1 h2.2]
  rintro ⟨e1, e2⟩
  rw [e1, e2] at h3
  have := hxy.2.1
  omega
theorem CI.g {P κ : St} (h : CI P κ) {ks : List Nat} {κ2 : St} (hf : fr ks κ κ2) (hs : ks.all (fun k => decide (16 ≤ k ∧ k ≠ 49 ∧ k ≠ 80)) = true) : CI P κ2 := by
  have e : ∀ k : Nat, (k < 16 ∨ k = 49 ∨ k = 80) → κ2 k = κ k := fun k a => hf k (fun z => by have := List.all_eq_true.mp hs k z; simp at this; omega)
  refine ⟨fun k h1 h2 => (e k (by omega)).trans (h.1 k h1 h2), by rw [e 49 (by omega)]; exact h.2.1, fun j a b d => ?_⟩
  rw [e 80 (by omega)]
  refine h.2.2 j a b ?_
  unfold lsz at d ⊢
  rw [e 0 (by omega), e 4 (by omega)] at d
  exact d
theorem WR.fr {P κ κ2 : St} (h : WR P κ) {ks : List Nat} (hf : fr ks κ κ2) (hs : ks.all (fun k => decide (k < 39 ∨ 43 < k)) = true) : WR P κ2 := by
  have e : ∀ k : Nat, (39 ≤ k ∧ k ≤ 43) → κ2 k = κ k := fun k a => hf k (fun z => by have := List.all_eq_true.mp hs k z; simp at this; omega)
  unfold WR WR1 WB
  rw [e 39 (by omega), e 40 (by omega), e 41 (by omega), e 42 (by omega), e 43 (by omega)]
  exact h
theorem WB.fr {κ κ2 : St} {i : Int} (h : WB κ i) {ks : List Nat} (hf : fr ks κ κ2) (hs : ks.all (fun k => decide (k < 39 ∨ 43 < k)) = true) : WB κ2 i := by
  have e : ∀ k : Nat, (39 ≤ k ∧ k ≤ 43) → κ2 k = κ k := fun k a => hf k (fun z => by have := List.all_eq_true.mp hs k z; simp at this; omega)
  unfold WB
  rw [e 39 (by omega), e 40 (by omega), e 41 (by omega), e 42 (by omega), e 43 (by omega)]
  exact h
set_option maxRecDepth 100000 in
set_option maxHeartbeats 4000000 in
theorem k_arranged (en : Nat → Nat) (c : Nat → Nat) (κ : St) (P : St) (hp : MI P ∧ CI P κ) : MC (EN en) yX10_arranged sX10_arranged [.ref (c 0)] (fm (cO en c κ)) (fun v w => ∃ κ2 : St, v = some (.ref (c 2)) ∧ w = fm (cO en c κ2) ∧ (CI P κ2) ∧ (Arr P (P 0 11) (P 0 12) κ2) ∧ (fr [50, 51, 52, 53, 54, 55, 56, 57, 58] κ κ2)) := by
  refine MC.of (EN.stb en) [some (.ref (c 0))] 0 rfl rfl rfl (by simp [Value.category]) (Nat.le_of_ble_eq_true rfl) (fun K hK hR => ?_)
  obtain ⟨hM, hC⟩ := hp
  have hN4 := hM.2.2.1
  refine V_aload_n dX10_arranged_0 rfl ?_
  refine VO_getf (C0 := RX10) (T := TX10) (N := 9) (ci := 9) (fs := cwF c κ) 0 1 iwX10 (by decide) w234 (Or.inl rfl) rfl (at_cw) rfl dX10_arranged_1 ?_
  refine V_aload_n dX10_arranged_4 rfl ?_
  refine VO_getf (C0 := RX10) (T := TX10) (N := 9) (ci := 9) (fs := cwF c κ) 0 0 iwX10 (by decide) w233 (Or.inl rfl) rfl (at_cw) rfl dX10_arranged_5 ?_
  refine V_aload_n dX10_arranged_8 rfl ?_
  refine VO_getf (C0 := RX10) (T := TX10) (N := 9) (ci := 9) (fs := cwF c κ) 0 7 iwX10 (by decide) w240 (Or.inl rfl) rfl (at_cw) rfl dX10_arranged_9 ?_
  refine V_eqT (y := zI (P 0 11)) (congrArg zI (congrFun ((hC).1 0 (by decide) (by decide)) _)) ?_
  refine V_aload_n dX10_arranged_12 rfl ?_
  refine VO_getf (C0 := RX10) (T := TX10) (N := 9) (ci := 9) (fs := cwF c κ) 0 8 iwX10 (by decide) w241 (Or.inl rfl) rfl (at_cw) rfl dX10_arranged_13 ?_
  refine V_eqT (y := zI (P 0 12)) (congrArg zI (congrFun ((hC).1 0 (by decide) (by decide)) _)) ?_
  refine VO_callVF (As := [.ref (c 1), .int (zI (P 0 11)), .int (zI (P 0 12))]) (b := c 2) (i := 2) (ci := 8) (fs := wkF c κ) (T := TX9) (N := 10) (at_wk) rfl hK (k_w9_arrange en c κ (P 0 11) (P 0 12) P ⟨hM, hC, hM.2.2.2.1, hM.2.2.2.2.1⟩) mokX9_arrange w316 w317 w318 ⟨Nat.le_of_ble_eq_true rfl, Nat.le_of_ble_eq_true rfl⟩ rfl (Nat.le_of_ble_eq_true rfl) ⟨Nat.le_of_ble_eq_true rfl, Nat.le_of_ble_eq_true rfl⟩ dX10_arranged_16 (fun v w p_1 => ?_)
  obtain ⟨κ_2, rfl, rfl, q_3, q_4, q_5⟩ := p_1
  show V K sX10_arranged 0 0 (fm (cO en c κ_2)) [some (.ref (c 0))] [] 19
  refine V_aload_n dX10_arranged_19 rfl ?_
  refine VO_getf (C0 := RX10) (T := TX10) (N := 9) (ci := 9) (fs := cwF c κ_2) 0 1 iwX10 (by decide) w234 (Or.inl rfl) rfl (at_cw) rfl dX10_arranged_20 ?_
  refine V_aret hR rfl (Or.inl ⟨_, rfl⟩) (Or.inr ⟨_, rfl⟩) (Nat.le_of_ble_eq_true rfl) (Nat.le_of_ble_eq_true rfl) dX10_arranged_23 ?_
  exact ⟨_, rfl, rfl, q_3, q_4, q_5⟩
set_option maxRecDepth 100000 in
set_option maxHeartbeats 4000000 in
theorem k_gatherDifferences (en : Nat → Nat) (c : Nat → Nat) (κ : St) (s : Int) (P : St) (bw cw : Int) (hp : MI P ∧ CI P κ ∧ Arr P bw cw κ ∧ (0 ≤ s ∧ s < P 0 2)) : MC (EN en) yX10_gatherDifferences sX10_gatherDifferences [.ref (c 0), .int (zI s)] (fm (cO en c κ)) (fun v w => ∃ κ2 : St, v = none ∧ w = fm (cO en c κ2) ∧ (CI P κ2) ∧ (DS P (gD P bw cw s s noD) κ2) ∧ (fr [60, 61, 62, 64] κ κ2)) := by
  refine MC.of (EN.stb en) [some (.ref (c 0)), some (.int (zI s))] 0 rfl rfl rfl (by simp [Value.category]) (Nat.le_of_ble_eq_true rfl) (fun K hK hR => ?_)
  obtain ⟨hM, hC, hp⟩ := hp
  have hN4 := hM.2.2.1
  obtain ⟨hA, hs⟩ := hp
  refine V_aload_n dX10_gatherDifferences_0 rfl ?_
  refine VO_getf (C0 := RX10) (T := TX10) (N := 9) (ci := 9) (fs := cwF c κ) 0 2 iwX10 (by decide) w235 (Or.inl rfl) rfl (at_cw) rfl dX10_gatherDifferences_1 ?_
  refine V_aload_n dX10_gatherDifferences_4 rfl ?_
  refine VO_getf (C0 := RX10) (T := TX10) (N := 9) (ci := 9) (fs := cwF c κ) 0 0 iwX10 (by decide) w233 (Or.inl rfl) rfl (at_cw) rfl dX10_gatherDifferences_5 ?_
  refine VO_callVF (As := [.ref (c 1)]) (b := c 12) (i := 12) (ci := 2) (fs := dfF c κ) (T := TX2) (N := 7) (at_df) rfl hK (k_w2_clear en c κ P ⟨hM, hC⟩) mokX2_clear w369 w370 w371 ⟨Nat.le_of_ble_eq_true rfl, Nat.le_of_ble_eq_true rfl⟩ rfl (Nat.le_of_ble_eq_true rfl) ⟨Nat.le_of_ble_eq_true rfl, Nat.le_of_ble_eq_true rfl⟩ dX10_gatherDifferences_8 (fun v w p_1 => ?_)
  obtain ⟨κ_2, rfl, rfl, q_3, q_4, q_5⟩ := p_1
  show V K sX10_gatherDifferences 0 0 (fm (cO en c κ_2)) [some (.ref (c 0)), some (.int (zI s))] [] 11
  refine V_aload_n dX10_gatherDifferences_11 rfl ?_
  refine VO_getf (C0 := RX10) (T := TX10) (N := 9) (ci := 9) (fs := cwF c κ_2) 0 2 iwX10 (by decide) w235 (Or.inl rfl) rfl (at_cw) rfl dX10_gatherDifferences_12 ?_
  refine V_aload_n dX10_gatherDifferences_15 rfl ?_
  refine VO_getf (C0 := RX10) (T := TX10) (N := 9) (ci := 9) (fs := cwF c κ_2) 0 0 iwX10 (by decide) w233 (Or.inl rfl) rfl (at_cw) rfl dX10_gatherDifferences_16 ?_
  refine V_aload_n dX10_gatherDifferences_19 rfl ?_
  refine VO_getf (C0 := RX10) (T := TX10) (N := 9) (ci := 9) (fs := cwF c κ_2) 0 1 iwX10 (by decide) w234 (Or.inl rfl) rfl (at_cw) rfl dX10_gatherDifferences_20 ?_
  refine V_iload_n dX10_gatherDifferences_23 rfl ?_
  refine V_iload_n dX10_gatherDifferences_24 rfl ?_
  refine VO_callVF (As := [.ref (c 1), .ref (c 2), .int (zI s), .int (zI s)]) (b := c 12) (i := 12) (ci := 2) (fs := dfF c κ_2) (T := TX2) (N := 7) (at_df) rfl hK (k_w2_add en c κ_2 s s P bw cw noD ⟨hM, q_3, hA.fr q_5 (by decide), q_4, hs, hs⟩) mokX2_add w373 w374 w375 ⟨Nat.le_of_ble_eq_true rfl, Nat.le_of_ble_eq_true rfl⟩ rfl (Nat.le_of_ble_eq_true rfl) ⟨Nat.le_of_ble_eq_true rfl, Nat.le_of_ble_eq_true rfl⟩ dX10_gatherDifferences_25 (fun v w p_6 => ?_)
  obtain ⟨κ_7, rfl, rfl, q_8, q_9, q_10⟩ := p_6
  show V K sX10_gatherDifferences 0 0 (fm (cO en c κ_7)) [some (.ref (c 0)), some (.int (zI s))] [] 28
  refine V_vret hR rfl (Nat.le_of_ble_eq_true rfl) (Nat.le_of_ble_eq_true rfl) dX10_gatherDifferences_28 ?_
  exact ⟨_, rfl, rfl, q_8, q_9, q_5.tr q_10⟩
set_option maxRecDepth 100000 in
set_option maxHeartbeats 4000000 in
theorem k_placesOf (en : Nat → Nat) (c : Nat → Nat) (κ : St) (s : Int) (P : St) (hp : MI P ∧ CI P κ ∧ (0 ≤ s ∧ s < P 0 2) ∧ WR P κ) : MC (EN en) yX10_placesOf sX10_placesOf [.ref (c 0), .int (zI s)] (fm (cO en c κ)) (fun v w => v = some (.int (zI (sz P s))) ∧ w = fm (cO en c κ)) := by
  refine MC.of (EN.stb en) [some (.ref (c 0)), some (.int (zI s))] 0 rfl rfl rfl (by simp [Value.category]) (Nat.le_of_ble_eq_true rfl) (fun K hK hR => ?_)
  obtain ⟨hM, hC, hp⟩ := hp
  have hN4 := hM.2.2.1
  obtain ⟨hs, hW⟩ := hp
  have hpt := hM.pts
  refine V_aload_n dX10_placesOf_0 rfl ?_
  refine VO_getf (C0 := RX10) (T := TX10) (N := 9) (ci := 9) (fs := cwF c κ) 0 0 iwX10 (by decide) w233 (Or.inl rfl) rfl (at_cw) rfl dX10_placesOf_1 ?_
  refine VO_getN (C0 := RX5) (T := TX5) (N := 4) (ci := 4) (fs := prF c κ) 1 0 iwX5 (by decide) hK wn69 rfl (at_pr) rfl dX10_placesOf_4 ?_
  show V K sX10_placesOf 0 0 (fm (cO en c κ)) [some (.ref (c 0)), some (.int (zI s))] [.ref (c (35 + 8 * Int.toNat 4))] 7
  refine V_iload_n dX10_placesOf_7 rfl ?_
  refine VO_callVF (As := [.int (zI s)]) (b := c (35 + 8 * Int.toNat 4)) (i := 35 + 8 * Int.toNat 4) (ci := 0) (fs := alF en c κ 4) (T := TJx4a65c) (N := 3) (at_al (CI.w4 _)) rfl hK (k_get4 en c κ s P ⟨hM, hC, by first | assumption | omega | exact ⟨by omega, by omega⟩ | exact ⟨⟨by omega, by omega⟩, by omega, by omega⟩ | exact ⟨⟨by omega, by omega⟩, ⟨by omega, by omega⟩⟩ | exact ⟨⟨by omega, by omega⟩, ⟨by omega, by omega⟩, by omega, by omega⟩⟩) mokJx4a65c_get_915e3 w390 w274 w275 ⟨Nat.le_of_ble_eq_true rfl, Nat.le_of_ble_eq_true rfl⟩ rfl (Nat.le_of_ble_eq_true rfl) ⟨Nat.le_of_ble_eq_true rfl, Nat.le_of_ble_eq_true rfl⟩ dX10_placesOf_8 (fun v w p_1 => ?_)
  obtain ⟨rfl, rfl⟩ := p_1
  show V K sX10_placesOf 0 0 (fm (cO en c κ)) [some (.ref (c 0)), some (.int (zI s))] [.ref (c (33 + 8 * Int.toNat s))] 11
  refine VO_castS (33 + 8 * Int.toNat s) (at_sm ((hC).sm hM (by omega))) rfl w391 dX10_placesOf_11 ?_
  refine VO_getN (C0 := RX7) (T := TX7) (N := 5) (ci := 6) (fs := smF c κ s) (33 + 8 * Int.toNat s) 2 iwX7 (by decide) hK wn622 rfl (at_sm ((hC).sm hM (by omega))) rfl dX10_placesOf_14 ?_
  refine V_aload_n dX10_placesOf_17 rfl ?_
  refine VO_getf (C0 := RX10) (T := TX10) (N := 9) (ci := 9) (fs := cwF c κ) 0 0 iwX10 (by decide) w233 (Or.inl rfl) rfl (at_cw) rfl dX10_placesOf_18 ?_
  refine VO_getN (C0 := RX5) (T := TX5) (N := 4) (ci := 4) (fs := prF c κ) 1 3 iwX5 (by decide) hK wn81 rfl (at_pr) rfl dX10_placesOf_21 ?_
  refine V_eqT (y := zI (pt P)) (congrArg zI (hC).2.1) ?_
  refine VO_callVF (As := [.int (zI (pt P))]) (b := c (34 + 8 * Int.toNat s)) (i := 34 + 8 * Int.toNat s) (ci := 7) (fs := wnF en κ s) (T := TX8) (N := 5) (at_wn ((hC).wn hM (by omega))) rfl hK (k_w8_places en c κ s (pt P) (⟨hC.wn hM hs, (hW s hs.1 hs.2).2, ⟨by omega, by omega⟩⟩)) mokX8_places w433 w434 w435 ⟨Nat.le_of_ble_eq_true rfl, Nat.le_of_ble_eq_true rfl⟩ rfl (Nat.le_of_ble_eq_true rfl) ⟨Nat.le_of_ble_eq_true rfl, Nat.le_of_ble_eq_true rfl⟩ dX10_placesOf_24 (fun v w p_2 => ?_)
  obtain ⟨rfl, rfl⟩ := p_2
  show V K sX10_placesOf 0 0 (fm (cO en c κ)) [some (.ref (c 0)), some (.int (zI s))] [.int (zI (wsz κ s (pt P)))] 27
  refine V_iret hR rfl (Nat.le_of_ble_eq_true rfl) (Nat.le_of_ble_eq_true rfl) dX10_placesOf_27 ?_
  exact ⟨ziE (wsz_sz hM hs (hW s hs.1 hs.2)), rfl⟩
set_option maxRecDepth 100000 in
set_option maxHeartbeats 4000000 in
theorem k_room (en : Nat → Nat) (c : Nat → Nat) (κ : St) (P : St) (hp : MI P ∧ CI P κ ∧ WR P κ) : MC (EN en) yX10_room sX10_room [.ref (c 0)] (fm (cO en c κ)) (fun v w => v = some (.int (zI (smv (sz P) (P 0 2)))) ∧ w = fm (cO en c κ)) := by
  refine MC.of (EN.stb en) [some (.ref (c 0)), none, none] 2 rfl rfl rfl (by simp [Value.category]) (Nat.le_of_ble_eq_true rfl) (fun K hK hR => ?_)
  obtain ⟨hM, hC, hp⟩ := hp
  have hN4 := hM.2.2.1
  have hW := hp
  have loop_4 : ∀ (n0 : Nat) (n : Int) (s : Int), (P 0 2 - s).toNat = n0 → (0 ≤ s ∧ s ≤ P 0 2) → (n = smv (sz P) s) → V K sX10_room 0 0 (fm (cO en c κ)) [some (.ref (c 0)), some (.int (zI n)), some (.int (zI s))] [] 4 := by
    intro n0
    induction n0 using Nat.strongRecOn with
    | _ n0 ih_4 =>
    intro n s hm_4 hs hn
    refine V_iload_n dX10_room_4 rfl ?_
    refine V_aload_n dX10_room_5 rfl ?_
    refine VO_getf (C0 := RX10) (T := TX10) (N := 9) (ci := 9) (fs := cwF c κ) 0 0 iwX10 (by decide) w233 (Or.inl rfl) rfl (at_cw) rfl dX10_room_6 ?_
    refine VO_getN (C0 := RX5) (T := TX5) (N := 4) (ci := 4) (fs := prF c κ) 1 0 iwX5 (by decide) hK wn69 rfl (at_pr) rfl dX10_room_9 ?_
    show V K sX10_room 0 0 (fm (cO en c κ)) [some (.ref (c 0)), some (.int (zI n)), some (.int (zI s))] [.ref (c (35 + 8 * Int.toNat 4)), .int (zI s)] 12
    refine VO_callVF (As := []) (b := c (35 + 8 * Int.toNat 4)) (i := 35 + 8 * Int.toNat 4) (ci := 0) (fs := alF en c κ 4) (T := TJx4a65c) (N := 3) (at_al (CI.w4 _)) rfl hK (k_size4 en c κ P ⟨hM, hC⟩) mokJx4a65c_size_8abf5 w364 w270 w271 ⟨Nat.le_of_ble_eq_true rfl, Nat.le_of_ble_eq_true rfl⟩ rfl (Nat.le_of_ble_eq_true rfl) ⟨Nat.le_of_ble_eq_true rfl, Nat.le_of_ble_eq_true rfl⟩ dX10_room_12 (fun v w p_1 => ?_)
    obtain ⟨rfl, rfl⟩ := p_1
    show V K sX10_room 0 0 (fm (cO en c κ)) [some (.ref (c 0)), some (.int (zI n)), some (.int (zI s))] [.int (zI (P 0 2)), .int (zI s)] 15
    refine V_icmp_ge (tgt := 32) dX10_room_15 (by decide) ⟨⟨by omega, by omega⟩, ⟨by omega, by omega⟩⟩ (fun c_2 => ?_) (fun c_2 => ?_)
    · refine V_iload_n dX10_room_32 rfl ?_
      refine V_iret hR rfl (Nat.le_of_ble_eq_true rfl) (Nat.le_of_ble_eq_true rfl) dX10_room_33 ?_
      exact ⟨ziE (by rw [hn, show s = P 0 2 by omega]), rfl⟩
    · refine V_iload_n dX10_room_18 rfl ?_
      refine V_aload_n dX10_room_19 rfl ?_
      refine V_iload_n dX10_room_20 rfl ?_
      refine VO_callVF (As := [.int (zI s)]) (b := c 0) (i := 0) (ci := 9) (fs := cwF c κ) (T := TX10) (N := 9) (at_cw) rfl hK (k_placesOf en c κ s P ⟨hM, hC, by first | assumption | omega | exact ⟨by omega, by omega⟩ | exact ⟨⟨by omega, by omega⟩, by omega, by omega⟩ | exact ⟨⟨by omega, by omega⟩, ⟨by omega, by omega⟩⟩ | exact ⟨⟨by omega, by omega⟩, ⟨by omega, by omega⟩, by omega, by omega⟩⟩) mokX10_placesOf w465 w467 wps0_10 ⟨Nat.le_of_ble_eq_true rfl, Nat.le_of_ble_eq_true rfl⟩ rfl (Nat.le_of_ble_eq_true rfl) ⟨Nat.le_of_ble_eq_true rfl, Nat.le_of_ble_eq_true rfl⟩ dX10_room_21 (fun v w p_3 => ?_)
      obtain ⟨rfl, rfl⟩ := p_3
      show V K sX10_room 0 0 (fm (cO en c κ)) [some (.ref (c 0)), some (.int (zI n)), some (.int (zI s))] [.int (zI (sz P s)), .int (zI n)] 24
      refine V_iadd dX10_room_24 ?_
      refine V_istore_n (L' := [some (.ref (c 0)), some (.int (zI (n + (sz P s)))), some (.int (zI s))]) dX10_room_25 (by decide) rfl ?_
      refine V_iinc (L' := [some (.ref (c 0)), some (.int (zI (n + (sz P s)))), some (.int (zI (s + 1)))]) dX10_room_26 (by decide) rfl rfl ?_
      refine V_goto (tgt := 4) dX10_room_29 (by decide) ?_
      refine ih_4 _ (by omega) (n + (sz P s)) (s + 1) rfl ?_ ?_
      · omega
      · rw [smv_s _ hs.1, hn]
  have seg_4 : ∀ (n : Int) (s : Int), (0 ≤ s ∧ s ≤ P 0 2) → (n = smv (sz P) s) → V K sX10_room 0 0 (fm (cO en c κ)) [some (.ref (c 0)), some (.int (zI n)), some (.int (zI s))] [] 4 := fun n s hs hn => loop_4 _ n s rfl hs hn
  refine V_iconst dX10_room_0 ?_
  refine V_istore_n (L' := [some (.ref (c 0)), some (.int (zI 0)), none]) dX10_room_1 (by decide) rfl ?_
  refine V_iconst dX10_room_2 ?_
  refine V_istore_n (L' := [some (.ref (c 0)), some (.int (zI 0)), some (.int (zI 0))]) dX10_room_3 (by decide) rfl ?_
  refine seg_4 0 0 ?_ ?_
  · omega
  · exact rfl

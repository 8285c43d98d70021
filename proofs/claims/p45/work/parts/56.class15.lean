/-! the class: the machines -/
/-- the statement's window is the program's -/
def WR1 (P κ : St) (s : Int) : Prop := (κ 39 s = P 13 s ∧ (P 13 s = 1 → κ 40 s = P 14 s) ∧ (P 13 s = 2 → κ 41 s = P 14 s ∧ κ 42 s = P 15 s) ∧ (P 13 s = 3 → κ 43 s = P 14 s ∧ κ 40 s = P 15 s)) ∧ WB κ s
def WR (P κ : St) : Prop := ∀ s, 0 ≤ s → s < P 0 2 → WR1 P κ s
theorem wpl_plc {P κ : St} (hM : MI P) {s x y : Int} (hs : 0 ≤ s ∧ s < P 0 2) (h : WR1 P κ s) (hin : inF P x y) : wpl κ s x y (P 0 1) = plc P s (x * P 0 1 + y) := by
  obtain ⟨a1, a2, a3, a4⟩ := rdp_b hM hin
  obtain ⟨d1, d2, d3, d4⟩ := hin
  obtain ⟨⟨h1, h2, h3, h4⟩, hb⟩ := h
  have hw := hM.mw hs.1 (by have := hM.2.2.1; omega)
  unfold wpl plc
  rw [h1, a3, a4]
  rcases hw with hw | ⟨hw, w1⟩ | ⟨hw, w1⟩ | ⟨hw, w1⟩
  · rw [if_neg (by omega), if_neg (by omega), if_neg (by omega), if_pos hw]
  · rw [if_pos hw, if_neg (by omega), if_pos hw, h2 hw, rs_f (by omega), Int.tmod_eq_emod_of_nonneg a1]
  · rw [if_neg (by omega), if_pos hw, if_neg (by omega), if_neg (by omega), if_pos hw, (h3 hw).1, (h3 hw).2, rs_f (by omega), rs_f (by omega), Int.tmod_eq_emod_of_nonneg d1, Int.tmod_eq_emod_of_nonneg d3]
  · rw [if_neg (by omega), if_neg (by omega), if_pos hw, if_neg (by omega), if_neg (by omega), if_neg (by omega), (h4 hw).1, (h4 hw).2, rs_f (by omega), Int.tmod_eq_emod_of_nonneg (by have := Int.mul_nonneg d3 (show 0 ≤ P 14 s by omega); omega)]
def plm (P : St) (m s p : Int) : Int := if m = 0 then p else plc P s p
theorem plm_b {P : St} (hM : MI P) {m s p : Int} (hm : 0 ≤ m ∧ m ≤ 1) (hs : 0 ≤ s ∧ s < P 0 2) (hp : 0 ≤ p) (hpn : p < pt P) : 0 ≤ plm P m s p ∧ plm P m s p < (kL m : Int) := by
  have h1 := plc_b hM hs.1 (by have := hM.2.2.1; omega) hp hpn
  have h2 := hM.pts
  unfold plm kL
  by_cases e : m = 0
  · rw [if_pos e, if_pos e]; omega
  · rw [if_neg e, if_neg e]; omega
theorem k_fm2 (en : Nat → Nat) (x y : Int) (hp : (-1000000 ≤ x ∧ x ≤ 1000000) ∧ y = 100) : MC (EN en) yJ9_floorMod_7cf53 sJ9_floorMod_7cf53 [.int (zI x), .int (zI y)] [] (fun v w => v = some (.int (zI (x % 100))) ∧ w = []) := by
  obtain ⟨h, rfl⟩ := hp
  exact k_fm en x h
/-- what the machine m keeps -/
def KV (m : Int) (g : Int → Int → Int) (κ : St) : Prop := ∀ s q, 0 ≤ s → s < 4 → 0 ≤ q → q < (kL m : Int) → κ (70 + 4 * m.toNat + s.toNat) q = g s q
def GB (g : Int → Int → Int) : Prop := ∀ s q, 0 ≤ g s q ∧ g s q ≤ 9972
def frM (κ0 κ : St) : Prop := ∀ k : Nat, (k < 70 ∨ 77 < k) → κ k = κ0 k
theorem frM.rf (κ : St) : frM κ κ := fun _ _ => rfl
theorem frM.upd {κ0 κ : St} (h : frM κ0 κ) {k : Nat} {i v : Int} (hk : 70 ≤ k ∧ k ≤ 77) : frM κ0 (up κ k i v) := fun j hj => by rw [up_ne (by omega)]; exact h j hj
theorem frM.updW {κ0 κ : St} (h : frM κ0 κ) {k : Nat} {f : Int → Int} (hk : 70 ≤ k ∧ k ≤ 77) : frM κ0 (upW κ k f) := fun j hj => by rw [upW_ne (by omega)]; exact h j hj
theorem frM.tr {a b d : St} (h1 : frM a b) (h2 : frM b d) : frM a d := fun j hj => (h2 j hj).trans (h1 j hj)
theorem WR.frM {P κ0 κ : St} (h : WR P κ0) (hf : frM κ0 κ) : WR P κ := by
  unfold WR WR1 WB
  rw [hf 39 (by omega), hf 40 (by omega), hf 41 (by omega), hf 42 (by omega), hf 43 (by omega)]
  exact h
theorem Arr.frM {P κ0 κ : St} {bw cw : Int} (h : Arr P bw cw κ0) (hf : frM κ0 κ) : Arr P bw cw κ := by
  unfold Arr
  rw [hf 50 (by omega), hf 51 (by omega), hf 52 (by omega), hf 53 (by omega), hf 54 (by omega), hf 55 (by omega), hf 56 (by omega)]
  exact h
def tkr (P : St) (m : Int) (g : Int → Int → Int) (f x y : Int) : Int := if 0 ≤ x ∧ x < P 0 0 ∧ 0 ≤ y ∧ y < P 0 1 then g f (plm P m f (x * P 0 1 + y)) else (5 * x + 7 * y + f) % 100
set_option maxRecDepth 100000 in
set_option maxHeartbeats 4000000 in
theorem k_w4_placeIn (en : Nat → Nat) (c : Nat → Nat) (κ : St) (m : Int) (s : Int) (x : Int) (y : Int) (P : St) (hp : MI P ∧ CI P κ ∧ (0 ≤ m ∧ m ≤ 1) ∧ WR P κ ∧ (0 ≤ s ∧ s < P 0 2) ∧ inF P x y) : MC (EN en) yX4_placeIn sX4_placeIn [.ref (c (18 + 6 * Int.toNat m)), .ref (c 1), .int (zI s), .int (zI x), .int (zI y)] (fm (cO en c κ)) (fun v w => v = some (.int (zI (plm P m s (x * P 0 1 + y)))) ∧ w = fm (cO en c κ)) := by
  refine MC.of (EN.stb en) [some (.ref (c (18 + 6 * Int.toNat m))), some (.ref (c 1)), some (.int (zI s)), some (.int (zI x)), some (.int (zI y))] 0 rfl rfl rfl (by simp [Value.category]) (Nat.le_of_ble_eq_true rfl) (fun K hK hR => ?_)
  obtain ⟨hM, hC, hp⟩ := hp
  have hN4 := hM.2.2.1
  obtain ⟨hm, hW, hs, hin⟩ := hp
  have hin2 := hin
  obtain ⟨d1, d2, d3, d4⟩ := hin2
  have hm1 := hM.1
  have hm2 := hM.2.1
  refine V_aload_n dX4_placeIn_0 rfl ?_
  refine VO_getf (C0 := RX4) (T := TX4) (N := 2) (ci := 3) (fs := mcF c m) (18 + 6 * Int.toNat m) 0 iwX4 (by decide) w203 (Or.inl rfl) rfl (at_mc (hm)) rfl dX4_placeIn_1 ?_
  refine V_if_ne (tgt := 17) dX4_placeIn_4 (by decide) ⟨by omega, by omega⟩ (fun c_1 => ?_) (fun c_1 => ?_)
  · refine V_aload_n dX4_placeIn_17 rfl ?_
    refine VO_getN (C0 := RX5) (T := TX5) (N := 4) (ci := 4) (fs := prF c κ) 1 0 iwX5 (by decide) hK wn71 rfl (at_pr) rfl dX4_placeIn_18 ?_
    show V K sX4_placeIn 0 0 (fm (cO en c κ)) [some (.ref (c (18 + 6 * Int.toNat m))), some (.ref (c 1)), some (.int (zI s)), some (.int (zI x)), some (.int (zI y))] [.ref (c (35 + 8 * Int.toNat 4))] 21
    refine V_iload_n dX4_placeIn_21 rfl ?_
    refine VO_callVF (As := [.int (zI s)]) (b := c (35 + 8 * Int.toNat 4)) (i := 35 + 8 * Int.toNat 4) (ci := 0) (fs := alF en c κ 4) (T := TJx4a65c) (N := 3) (at_al (CI.w4 _)) rfl hK (k_get4 en c κ s P ⟨hM, hC, by first | assumption | omega | exact ⟨by omega, by omega⟩ | exact ⟨⟨by omega, by omega⟩, by omega, by omega⟩ | exact ⟨⟨by omega, by omega⟩, ⟨by omega, by omega⟩⟩ | exact ⟨⟨by omega, by omega⟩, ⟨by omega, by omega⟩, by omega, by omega⟩⟩) mokJx4a65c_get_915e3 w483 w274 w275 ⟨Nat.le_of_ble_eq_true rfl, Nat.le_of_ble_eq_true rfl⟩ rfl (Nat.le_of_ble_eq_true rfl) ⟨Nat.le_of_ble_eq_true rfl, Nat.le_of_ble_eq_true rfl⟩ dX4_placeIn_22 (fun v w p_2 => ?_)
    obtain ⟨rfl, rfl⟩ := p_2
    show V K sX4_placeIn 0 0 (fm (cO en c κ)) [some (.ref (c (18 + 6 * Int.toNat m))), some (.ref (c 1)), some (.int (zI s)), some (.int (zI x)), some (.int (zI y))] [.ref (c (33 + 8 * Int.toNat s))] 25
    refine VO_castS (33 + 8 * Int.toNat s) (at_sm ((hC).sm hM (by omega))) rfl w484 dX4_placeIn_25 ?_
    refine VO_getN (C0 := RX7) (T := TX7) (N := 5) (ci := 6) (fs := smF c κ s) (33 + 8 * Int.toNat s) 2 iwX7 (by decide) hK wn621 rfl (at_sm ((hC).sm hM (by omega))) rfl dX4_placeIn_28 ?_
    refine V_iload_n dX4_placeIn_31 rfl ?_
    refine V_iload dX4_placeIn_32 rfl ?_
    refine V_aload_n dX4_placeIn_34 rfl ?_
    refine VO_getN (C0 := RX5) (T := TX5) (N := 4) (ci := 4) (fs := prF c κ) 1 2 iwX5 (by decide) hK wn78 rfl (at_pr) rfl dX4_placeIn_35 ?_
    refine V_eqT (y := zI (P 0 1)) (congrArg zI (congrFun ((hC).1 0 (by decide) (by decide)) _)) ?_
    refine VO_callVF (As := [.int (zI x), .int (zI y), .int (zI (P 0 1))]) (b := c (34 + 8 * Int.toNat s)) (i := 34 + 8 * Int.toNat s) (ci := 7) (fs := wnF en κ s) (T := TX8) (N := 5) (at_wn ((hC).wn hM (by omega))) rfl hK (k_w8_placeFor en c κ s x y (P 0 1) (⟨hC.wn hM hs, (hW s hs.1 hs.2).2, ⟨by omega, by omega⟩, ⟨by omega, by omega⟩, hm2⟩)) mokX8_placeFor w499 w500 w501 ⟨Nat.le_of_ble_eq_true rfl, Nat.le_of_ble_eq_true rfl⟩ rfl (Nat.le_of_ble_eq_true rfl) ⟨Nat.le_of_ble_eq_true rfl, Nat.le_of_ble_eq_true rfl⟩ dX4_placeIn_38 (fun v w p_3 => ?_)
    obtain ⟨rfl, rfl⟩ := p_3
    show V K sX4_placeIn 0 0 (fm (cO en c κ)) [some (.ref (c (18 + 6 * Int.toNat m))), some (.ref (c 1)), some (.int (zI s)), some (.int (zI x)), some (.int (zI y))] [.int (zI (wpl κ s x y (P 0 1)))] 41
    refine V_iret hR rfl (Nat.le_of_ble_eq_true rfl) (Nat.le_of_ble_eq_true rfl) dX4_placeIn_41 ?_
    exact ⟨ziE (by unfold plm; rw [if_neg (by omega)]; exact wpl_plc hM hs (hW s hs.1 hs.2) hin), rfl⟩
  · refine V_iload_n dX4_placeIn_7 rfl ?_
    refine V_aload_n dX4_placeIn_8 rfl ?_
    refine VO_getN (C0 := RX5) (T := TX5) (N := 4) (ci := 4) (fs := prF c κ) 1 2 iwX5 (by decide) hK wn78 rfl (at_pr) rfl dX4_placeIn_9 ?_
    refine V_eqT (y := zI (P 0 1)) (congrArg zI (congrFun ((hC).1 0 (by decide) (by decide)) _)) ?_
    refine V_imul dX4_placeIn_12 ?_
    refine V_iload dX4_placeIn_13 rfl ?_
    refine V_iadd dX4_placeIn_15 ?_
    refine V_iret hR rfl (Nat.le_of_ble_eq_true rfl) (Nat.le_of_ble_eq_true rfl) dX4_placeIn_16 ?_
    exact ⟨ziE (by unfold plm; rw [if_pos (by omega)]), rfl⟩
set_option maxRecDepth 100000 in
set_option maxHeartbeats 4000000 in
theorem k_w4_taken (en : Nat → Nat) (c : Nat → Nat) (κ : St) (m : Int) (f : Int) (x : Int) (y : Int) (P : St) (g : Int → Int → Int) (hp : MI P ∧ CI P κ ∧ (0 ≤ m ∧ m ≤ 1) ∧ WR P κ ∧ KV m g κ ∧ (0 ≤ f ∧ f < P 0 2) ∧ (-8 ≤ x ∧ x ≤ 8) ∧ (-16 ≤ y ∧ y ≤ 16)) : MC (EN en) yX4_taken sX4_taken [.ref (c (18 + 6 * Int.toNat m)), .ref (c 1), .int (zI f), .int (zI x), .int (zI y)] (fm (cO en c κ)) (fun v w => v = some (.int (zI (tkr P m g f x y))) ∧ w = fm (cO en c κ)) := by
  refine MC.of (EN.stb en) [some (.ref (c (18 + 6 * Int.toNat m))), some (.ref (c 1)), some (.int (zI f)), some (.int (zI x)), some (.int (zI y)), none] 1 rfl rfl rfl (by simp [Value.category]) (Nat.le_of_ble_eq_true rfl) (fun K hK hR => ?_)
  obtain ⟨hM, hC, hp⟩ := hp
  have hN4 := hM.2.2.1
  obtain ⟨hm, hW, hK9, hf, hx, hy⟩ := hp
  refine V_aload_n dX4_taken_0 rfl ?_
  refine V_iload_n dX4_taken_1 rfl ?_
  refine V_iload dX4_taken_2 rfl ?_
  refine VO_callVF (As := [.int (zI x), .int (zI y)]) (b := c 1) (i := 1) (ci := 4) (fs := prF c κ) (T := TX5) (N := 4) (at_pr) rfl hK (k_w5_hasPoint en c κ x y P ⟨hM, hC, ⟨⟨by omega, by omega⟩, ⟨by omega, by omega⟩⟩⟩) mokX5_hasPoint w491 w346 w347 ⟨Nat.le_of_ble_eq_true rfl, Nat.le_of_ble_eq_true rfl⟩ rfl (Nat.le_of_ble_eq_true rfl) ⟨Nat.le_of_ble_eq_true rfl, Nat.le_of_ble_eq_true rfl⟩ dX4_taken_4 (fun v w p_1 => ?_)
  obtain ⟨rfl, rfl⟩ := p_1
  show V K sX4_taken 0 0 (fm (cO en c κ)) [some (.ref (c (18 + 6 * Int.toNat m))), some (.ref (c 1)), some (.int (zI f)), some (.int (zI x)), some (.int (zI y)), none] [.int (zI (bz (dcd (inF P x y))))] 7
  refine V_ifc_ne (tgt := 31) dX4_taken_7 (by decide) (fun c_2 => ?_) (fun c_2 => ?_)
  · refine V_aload_n dX4_taken_31 rfl ?_
    refine VO_getf (C0 := RX4) (T := TX4) (N := 2) (ci := 3) (fs := mcF c m) (18 + 6 * Int.toNat m) 1 iwX4 (by decide) w204 (Or.inl rfl) rfl (at_mc (hm)) rfl dX4_taken_32 ?_
    refine V_iload_n dX4_taken_35 rfl ?_
    refine VO_aaldA (19 + 6 * Int.toNat m) (at_ka (hm)) ⟨by omega, by omega⟩ (by decide) (kA_at ⟨by omega, by omega⟩) dX4_taken_36 ?_
    refine V_aload_n dX4_taken_37 rfl ?_
    refine V_aload_n dX4_taken_38 rfl ?_
    refine V_iload_n dX4_taken_39 rfl ?_
    refine V_iload_n dX4_taken_40 rfl ?_
    refine V_iload dX4_taken_41 rfl ?_
    refine VO_callVF (As := [.ref (c 1), .int (zI f), .int (zI x), .int (zI y)]) (b := c (18 + 6 * Int.toNat m)) (i := 18 + 6 * Int.toNat m) (ci := 3) (fs := mcF c m) (T := TX4) (N := 2) (at_mc (hm)) rfl hK (k_w4_placeIn en c κ m f x y P ⟨hM, hC, hm, hW, hf, c_2⟩) mokX4_placeIn w495 w497 wps0_12 ⟨Nat.le_of_ble_eq_true rfl, Nat.le_of_ble_eq_true rfl⟩ rfl (Nat.le_of_ble_eq_true rfl) ⟨Nat.le_of_ble_eq_true rfl, Nat.le_of_ble_eq_true rfl⟩ dX4_taken_43 (fun v w p_3 => ?_)
    obtain ⟨rfl, rfl⟩ := p_3
    show V K sX4_taken 0 0 (fm (cO en c κ)) [some (.ref (c (18 + 6 * Int.toNat m))), some (.ref (c 1)), some (.int (zI f)), some (.int (zI x)), some (.int (zI y)), none] [.int (zI (plm P m f (x * P 0 1 + y))), .ref (c (20 + 6 * Int.toNat m + Int.toNat f))] 46
    have hpb := rdp_b hM c_2
    have hlb := plm_b hM hm hf hpb.1 hpb.2.1
    refine VO_iald (20 + 6 * Int.toNat m + Int.toNat f) (at_kr (by first | assumption | exact ⟨⟨by omega, by omega⟩, Or.inl rfl⟩ | exact ⟨⟨by omega, by omega⟩, Or.inr (by omega)⟩ | exact ⟨⟨by omega, by omega⟩, by omega⟩ | exact ⟨⟨by omega, by omega⟩, ⟨by omega, by omega⟩, by omega, by omega⟩ | exact ⟨by omega, by omega⟩)) ⟨hlb.1, hlb.2⟩ (kL_b _) dX4_taken_46 ?_
    refine V_eqT (y := zI (g f (plm P m f (x * P 0 1 + y)))) (congrArg zI (hK9 f _ hf.1 (by omega) hlb.1 hlb.2)) ?_
    refine V_iret hR rfl (Nat.le_of_ble_eq_true rfl) (Nat.le_of_ble_eq_true rfl) dX4_taken_47 ?_
    exact ⟨ziE (by unfold tkr; rw [if_pos (show (0 ≤ x ∧ x < P 0 0 ∧ 0 ≤ y ∧ y < P 0 1) from c_2)]), rfl⟩
  · refine V_iconst dX4_taken_10 ?_
    refine V_iload_n dX4_taken_11 rfl ?_
    refine V_imul dX4_taken_12 ?_
    refine V_bipush dX4_taken_13 (by decide) ?_
    refine V_iload dX4_taken_15 rfl ?_
    refine V_imul dX4_taken_17 ?_
    refine V_iadd dX4_taken_18 ?_
    refine V_iload_n dX4_taken_19 rfl ?_
    refine V_iadd dX4_taken_20 ?_
    refine V_istore (L' := [some (.ref (c (18 + 6 * Int.toNat m))), some (.ref (c 1)), some (.int (zI f)), some (.int (zI x)), some (.int (zI y)), some (.int (zI (((5 * x) + (7 * y)) + f)))]) dX4_taken_21 (by decide) rfl ?_
    refine V_iload dX4_taken_23 rfl ?_
    refine V_bipush dX4_taken_25 (by decide) ?_
    refine V_callSE (As := [.int (zI (((5 * x) + (7 * y)) + f)), .int (zI 100)]) hK (k_fm2 en (((5 * x) + (7 * y)) + f) 100 (⟨⟨by omega, by omega⟩, rfl⟩)) mokJ9_floorMod_7cf53 w492 w493 ⟨Nat.le_of_ble_eq_true rfl, Nat.le_of_ble_eq_true rfl⟩ rfl (Nat.le_of_ble_eq_true rfl) ⟨Nat.le_of_ble_eq_true rfl, Nat.le_of_ble_eq_true rfl⟩ dX4_taken_27 (fun v w p_4 => ?_)
    obtain ⟨rfl, rfl⟩ := p_4
    show V K sX4_taken 0 0 (fm (cO en c κ)) [some (.ref (c (18 + 6 * Int.toNat m))), some (.ref (c 1)), some (.int (zI f)), some (.int (zI x)), some (.int (zI y)), some (.int (zI (((5 * x) + (7 * y)) + f)))] [.int (zI ((((5 * x) + (7 * y)) + f) % 100))] 30
    refine V_iret hR rfl (Nat.le_of_ble_eq_true rfl) (Nat.le_of_ble_eq_true rfl) dX4_taken_30 ?_
    exact ⟨ziE (by unfold tkr; rw [if_neg (show ¬ (0 ≤ x ∧ x < P 0 0 ∧ 0 ≤ y ∧ y < P 0 1) from c_2)]), rfl⟩

/-! the class: live cells, conflicts -/
def selR (lo n k : Int) : Bool := decide (lo ≤ k ∧ k < n)
theorem selR_s {lo n N : Int} {q : Int → Bool} (hl : 0 ≤ lo) (hn : lo ≤ n) (hN : n < N) : ct (fun k => selR lo (n + 1) k && q k) N = ct (fun k => selR lo n k && q k) N + bz (q n) := by
  have e1 : bz (q n) = ct (fun k => decide (k = n) && q k) N := by
    rw [ct_single (p := fun k => decide (k = n) && q k) (i := n) (by omega) N (by omega) hN (fun j _ _ h => by simp at h; exact h.1)]
    simp
  rw [e1, ← ct_or N (by omega) (fun j _ _ => by unfold selR; simp; omega)]
  refine ct_congr N (by omega) (fun j _ _ => ?_)
  rw [← Bool.and_or_distrib_right]
  congr 1
  unfold selR
  rw [← Bool.decide_or]
  exact decide_eq_decide.mpr (by omega)
theorem selR_0 {lo N : Int} {q : Int → Bool} (hN : 0 ≤ N) : ct (fun k => selR lo lo k && q k) N = 0 := ct_none N hN (fun j _ _ => by unfold selR; rw [decide_eq_false (by omega)]; rfl)
theorem enE_b {P : St} {bw cw k : Int} (hk : 0 ≤ k) (hkn : k < al P) : bt P bw cw k ≤ enE P bw cw k ∧ enE P bw cw k ≤ al P := en_b hk hkn
noncomputable abbrev lvE (P : St) (bw cw : Int) (sel : Int → Bool) (t : Int) : Int := lvN P bw cw sel t
set_option maxRecDepth 100000 in
set_option maxHeartbeats 4000000 in
theorem k_w9_isBornWithin (en : Nat → Nat) (c : Nat → Nat) (κ : St) (a : Int) (b : Int) (P : St) (bw cw : Int) (hp : MI P ∧ CI P κ ∧ Arr P bw cw κ ∧ (0 ≤ a ∧ a < al P) ∧ (0 ≤ b ∧ b < al P)) : MC (EN en) yX9_isBornWithin sX9_isBornWithin [.ref (c 2), .int (zI a), .int (zI b)] (fm (cO en c κ)) (fun v w => v = some (.int (zI (bz (dcd (bt P bw cw b < bt P bw cw a ∧ bt P bw cw a < enE P bw cw b))))) ∧ w = fm (cO en c κ)) := by
  refine MC.of (EN.stb en) [some (.ref (c 2)), some (.int (zI a)), some (.int (zI b))] 0 rfl rfl rfl (by simp [Value.category]) (Nat.le_of_ble_eq_true rfl) (fun K hK hR => ?_)
  obtain ⟨hM, hC, hp⟩ := hp
  have hN4 := hM.2.2.1
  obtain ⟨hA, ha, hb⟩ := hp
  have hal := hM.als
  have hb_a := bt_b (bw := bw) (cw := cw) (show 0 ≤ a by omega) (show a < al P by omega)
  have he_a := enE_b (bw := bw) (cw := cw) (show 0 ≤ a by omega) (show a < al P by omega)
  have hb_b := bt_b (bw := bw) (cw := cw) (show 0 ≤ b by omega) (show b < al P by omega)
  have he_b := enE_b (bw := bw) (cw := cw) (show 0 ≤ b by omega) (show b < al P by omega)
  refine V_aload_n dX9_isBornWithin_0 rfl ?_
  refine VO_getf (C0 := RX9) (T := TX9) (N := 10) (ci := 8) (fs := wkF c κ) 2 3 iwX9 (by decide) w106 (Or.inl rfl) rfl (at_wk) rfl dX9_isBornWithin_1 ?_
  refine V_iload_n dX9_isBornWithin_4 rfl ?_
  refine VO_iald 6 at_wk_birth ⟨by omega, by omega⟩ (by decide) dX9_isBornWithin_5 ?_
  refine V_eqT (y := zI (bt P bw cw a)) (congrArg zI (hA.2.1 a ha.1 ha.2).2.1) ?_
  refine V_aload_n dX9_isBornWithin_6 rfl ?_
  refine VO_getf (C0 := RX9) (T := TX9) (N := 10) (ci := 8) (fs := wkF c κ) 2 3 iwX9 (by decide) w106 (Or.inl rfl) rfl (at_wk) rfl dX9_isBornWithin_7 ?_
  refine V_iload_n dX9_isBornWithin_10 rfl ?_
  refine VO_iald 6 at_wk_birth ⟨by omega, by omega⟩ (by decide) dX9_isBornWithin_11 ?_
  refine V_eqT (y := zI (bt P bw cw b)) (congrArg zI (hA.2.1 b hb.1 hb.2).2.1) ?_
  refine V_icmp_le (tgt := 34) dX9_isBornWithin_12 (by decide) ⟨⟨by omega, by omega⟩, ⟨by omega, by omega⟩⟩ (fun c_1 => ?_) (fun c_1 => ?_)
  · refine V_iconst dX9_isBornWithin_34 ?_
    show V K sX9_isBornWithin 0 0 (fm (cO en c κ)) _ [.int (zI (bz false))] 35
    refine V_zret hR rfl (Nat.le_of_ble_eq_true rfl) (Nat.le_of_ble_eq_true rfl) dX9_isBornWithin_35 ?_
    exact ⟨dcdF (by omega), rfl⟩
  · refine V_aload_n dX9_isBornWithin_15 rfl ?_
    refine VO_getf (C0 := RX9) (T := TX9) (N := 10) (ci := 8) (fs := wkF c κ) 2 3 iwX9 (by decide) w106 (Or.inl rfl) rfl (at_wk) rfl dX9_isBornWithin_16 ?_
    refine V_iload_n dX9_isBornWithin_19 rfl ?_
    refine VO_iald 6 at_wk_birth ⟨by omega, by omega⟩ (by decide) dX9_isBornWithin_20 ?_
    refine V_eqT (y := zI (bt P bw cw a)) (congrArg zI (hA.2.1 a ha.1 ha.2).2.1) ?_
    refine V_aload_n dX9_isBornWithin_21 rfl ?_
    refine VO_getf (C0 := RX9) (T := TX9) (N := 10) (ci := 8) (fs := wkF c κ) 2 4 iwX9 (by decide) w108 (Or.inl rfl) rfl (at_wk) rfl dX9_isBornWithin_22 ?_
    refine V_iload_n dX9_isBornWithin_25 rfl ?_
    refine VO_iald 7 at_wk_end ⟨by omega, by omega⟩ (by decide) dX9_isBornWithin_26 ?_
    refine V_eqT (y := zI (enE P bw cw b)) (congrArg zI (hA.2.1 b hb.1 hb.2).2.2) ?_
    refine V_icmp_ge (tgt := 34) dX9_isBornWithin_27 (by decide) ⟨⟨by omega, by omega⟩, ⟨by omega, by omega⟩⟩ (fun c_2 => ?_) (fun c_2 => ?_)
    · refine V_iconst dX9_isBornWithin_34 ?_
      show V K sX9_isBornWithin 0 0 (fm (cO en c κ)) _ [.int (zI (bz false))] 35
      refine V_zret hR rfl (Nat.le_of_ble_eq_true rfl) (Nat.le_of_ble_eq_true rfl) dX9_isBornWithin_35 ?_
      exact ⟨dcdF (by omega), rfl⟩
    · refine V_iconst dX9_isBornWithin_30 ?_
      refine V_goto (tgt := 35) dX9_isBornWithin_31 (by decide) ?_
      show V K sX9_isBornWithin 0 0 (fm (cO en c κ)) _ [.int (zI (bz true))] 35
      refine V_zret hR rfl (Nat.le_of_ble_eq_true rfl) (Nat.le_of_ble_eq_true rfl) dX9_isBornWithin_35 ?_
      exact ⟨dcdT (by omega), rfl⟩
set_option maxRecDepth 100000 in
set_option maxHeartbeats 4000000 in
theorem k_w9_inConflict (en : Nat → Nat) (c : Nat → Nat) (κ : St) (a : Int) (b : Int) (P : St) (bw cw : Int) (hp : MI P ∧ CI P κ ∧ Arr P bw cw κ ∧ (0 ≤ a ∧ a < al P) ∧ (0 ≤ b ∧ b < al P)) : MC (EN en) yX9_inConflict sX9_inConflict [.ref (c 2), .int (zI a), .int (zI b)] (fm (cO en c κ)) (fun v w => v = some (.int (zI (bz (cf P bw cw a b)))) ∧ w = fm (cO en c κ)) := by
  refine MC.of (EN.stb en) [some (.ref (c 2)), some (.int (zI a)), some (.int (zI b))] 0 rfl rfl rfl (by simp [Value.category]) (Nat.le_of_ble_eq_true rfl) (fun K hK hR => ?_)
  obtain ⟨hM, hC, hp⟩ := hp
  have hN4 := hM.2.2.1
  obtain ⟨hA, ha, hb⟩ := hp
  refine V_aload_n dX9_inConflict_0 rfl ?_
  refine V_iload_n dX9_inConflict_1 rfl ?_
  refine V_iload_n dX9_inConflict_2 rfl ?_
  refine VO_callVF (As := [.int (zI a), .int (zI b)]) (b := c 2) (i := 2) (ci := 8) (fs := wkF c κ) (T := TX9) (N := 10) (at_wk) rfl hK (k_w9_isBornWithin en c κ a b P bw cw ⟨hM, hC, hA, ha, hb⟩) mokX9_isBornWithin w382 w384 wps0_6 ⟨Nat.le_of_ble_eq_true rfl, Nat.le_of_ble_eq_true rfl⟩ rfl (Nat.le_of_ble_eq_true rfl) ⟨Nat.le_of_ble_eq_true rfl, Nat.le_of_ble_eq_true rfl⟩ dX9_inConflict_3 (fun v w p_1 => ?_)
  obtain ⟨rfl, rfl⟩ := p_1
  show V K sX9_inConflict 0 0 (fm (cO en c κ)) [some (.ref (c 2)), some (.int (zI a)), some (.int (zI b))] [.int (zI (bz (dcd (bt P bw cw b < bt P bw cw a ∧ bt P bw cw a < enE P bw cw b))))] 6
  refine V_ifc_ne (tgt := 18) dX9_inConflict_6 (by decide) (fun c_2 => ?_) (fun c_2 => ?_)
  · refine V_iconst dX9_inConflict_18 ?_
    refine V_goto (tgt := 23) dX9_inConflict_19 (by decide) ?_
    show V K sX9_inConflict 0 0 (fm (cO en c κ)) _ [.int (zI (bz true))] 23
    refine V_zret hR rfl (Nat.le_of_ble_eq_true rfl) (Nat.le_of_ble_eq_true rfl) dX9_inConflict_23 ?_
    exact ⟨bzE (cf_t (Or.inr c_2)), rfl⟩
  · refine V_aload_n dX9_inConflict_9 rfl ?_
    refine V_iload_n dX9_inConflict_10 rfl ?_
    refine V_iload_n dX9_inConflict_11 rfl ?_
    refine VO_callVF (As := [.int (zI b), .int (zI a)]) (b := c 2) (i := 2) (ci := 8) (fs := wkF c κ) (T := TX9) (N := 10) (at_wk) rfl hK (k_w9_isBornWithin en c κ b a P bw cw ⟨hM, hC, hA, hb, ha⟩) mokX9_isBornWithin w382 w384 wps0_6 ⟨Nat.le_of_ble_eq_true rfl, Nat.le_of_ble_eq_true rfl⟩ rfl (Nat.le_of_ble_eq_true rfl) ⟨Nat.le_of_ble_eq_true rfl, Nat.le_of_ble_eq_true rfl⟩ dX9_inConflict_12 (fun v w p_3 => ?_)
    obtain ⟨rfl, rfl⟩ := p_3
    show V K sX9_inConflict 0 0 (fm (cO en c κ)) [some (.ref (c 2)), some (.int (zI a)), some (.int (zI b))] [.int (zI (bz (dcd (bt P bw cw a < bt P bw cw b ∧ bt P bw cw b < enE P bw cw a))))] 15
    refine V_ifc_eq (tgt := 22) dX9_inConflict_15 (by decide) (fun c_4 => ?_) (fun c_4 => ?_)
    · refine V_iconst dX9_inConflict_22 ?_
      show V K sX9_inConflict 0 0 (fm (cO en c κ)) _ [.int (zI (bz false))] 23
      refine V_zret hR rfl (Nat.le_of_ble_eq_true rfl) (Nat.le_of_ble_eq_true rfl) dX9_inConflict_23 ?_
      exact ⟨bzE (cf_f (fun z => z.elim c_4 c_2)), rfl⟩
    · refine V_iconst dX9_inConflict_18 ?_
      refine V_goto (tgt := 23) dX9_inConflict_19 (by decide) ?_
      show V K sX9_inConflict 0 0 (fm (cO en c κ)) _ [.int (zI (bz true))] 23
      refine V_zret hR rfl (Nat.le_of_ble_eq_true rfl) (Nat.le_of_ble_eq_true rfl) dX9_inConflict_23 ?_
      exact ⟨bzE (cf_t (Or.inl c_4)), rfl⟩
set_option maxRecDepth 100000 in
set_option maxHeartbeats 4000000 in
theorem k_w9_countConflicts (en : Nat → Nat) (c : Nat → Nat) (κ : St) (a : Int) (lo : Int) (hi : Int) (P : St) (bw cw : Int) (hp : MI P ∧ CI P κ ∧ Arr P bw cw κ ∧ (0 ≤ a ∧ a < al P) ∧ (0 ≤ lo ∧ lo ≤ hi ∧ hi ≤ al P)) : MC (EN en) yX9_countConflicts sX9_countConflicts [.ref (c 2), .int (zI a), .int (zI lo), .int (zI hi)] (fm (cO en c κ)) (fun v w => v = some (.int (zI (ct (fun p => cf P bw cw a (lo + p)) (hi - lo)))) ∧ w = fm (cO en c κ)) := by
  refine MC.of (EN.stb en) [some (.ref (c 2)), some (.int (zI a)), some (.int (zI lo)), some (.int (zI hi)), none, none] 2 rfl rfl rfl (by simp [Value.category]) (Nat.le_of_ble_eq_true rfl) (fun K hK hR => ?_)
  obtain ⟨hM, hC, hp⟩ := hp
  have hN4 := hM.2.2.1
  obtain ⟨hA, ha, hl⟩ := hp
  have hal := hM.als
  have loop_6 : ∀ (n0 : Nat) (n : Int) (o : Int), (hi - o).toNat = n0 → (lo ≤ o ∧ o ≤ hi) → (n = ct (fun p => cf P bw cw a (lo + p)) (o - lo)) → V K sX9_countConflicts 0 0 (fm (cO en c κ)) [some (.ref (c 2)), some (.int (zI a)), some (.int (zI lo)), some (.int (zI hi)), some (.int (zI n)), some (.int (zI o))] [] 6 := by
    intro n0
    induction n0 using Nat.strongRecOn with
    | _ n0 ih_6 =>
    intro n o hm_6 ho hn
    refine V_iload dX9_countConflicts_6 rfl ?_
    refine V_iload_n dX9_countConflicts_8 rfl ?_
    refine V_icmp_ge (tgt := 31) dX9_countConflicts_9 (by decide) ⟨⟨by omega, by omega⟩, ⟨by omega, by omega⟩⟩ (fun c_1 => ?_) (fun c_1 => ?_)
    · refine V_iload dX9_countConflicts_31 rfl ?_
      refine V_iret hR rfl (Nat.le_of_ble_eq_true rfl) (Nat.le_of_ble_eq_true rfl) dX9_countConflicts_33 ?_
      exact ⟨ziE (by rw [hn, show o = hi by omega]), rfl⟩
    · refine V_aload_n dX9_countConflicts_12 rfl ?_
      refine V_iload_n dX9_countConflicts_13 rfl ?_
      refine V_iload dX9_countConflicts_14 rfl ?_
      refine VO_callVF (As := [.int (zI a), .int (zI o)]) (b := c 2) (i := 2) (ci := 8) (fs := wkF c κ) (T := TX9) (N := 10) (at_wk) rfl hK (k_w9_inConflict en c κ a o P bw cw ⟨hM, hC, hA, ha, ⟨by omega, by omega⟩⟩) mokX9_inConflict w908 w379 w380 ⟨Nat.le_of_ble_eq_true rfl, Nat.le_of_ble_eq_true rfl⟩ rfl (Nat.le_of_ble_eq_true rfl) ⟨Nat.le_of_ble_eq_true rfl, Nat.le_of_ble_eq_true rfl⟩ dX9_countConflicts_16 (fun v w p_2 => ?_)
      obtain ⟨rfl, rfl⟩ := p_2
      show V K sX9_countConflicts 0 0 (fm (cO en c κ)) [some (.ref (c 2)), some (.int (zI a)), some (.int (zI lo)), some (.int (zI hi)), some (.int (zI n)), some (.int (zI o))] [.int (zI (bz (cf P bw cw a o)))] 19
      refine V_ifb_eq (tgt := 25) dX9_countConflicts_19 (by decide) (fun c_3 => ?_) (fun c_3 => ?_)
      · refine V_iinc (L' := [some (.ref (c 2)), some (.int (zI a)), some (.int (zI lo)), some (.int (zI hi)), some (.int (zI n)), some (.int (zI (o + 1)))]) dX9_countConflicts_25 (by decide) rfl rfl ?_
        refine V_goto (tgt := 6) dX9_countConflicts_28 (by decide) ?_
        refine ih_6 _ (by omega) n (o + 1) rfl ?_ ?_
        · omega
        · rw [show o + 1 - lo = (o - lo) + 1 by omega, ct_s _ (by omega), show lo + (o - lo) = o by omega, c_3, hn]; exact (Int.add_zero _).symm
      · refine V_iinc (L' := [some (.ref (c 2)), some (.int (zI a)), some (.int (zI lo)), some (.int (zI hi)), some (.int (zI (n + 1))), some (.int (zI o))]) dX9_countConflicts_22 (by decide) rfl rfl ?_
        refine V_iinc (L' := [some (.ref (c 2)), some (.int (zI a)), some (.int (zI lo)), some (.int (zI hi)), some (.int (zI (n + 1))), some (.int (zI (o + 1)))]) dX9_countConflicts_25 (by decide) rfl rfl ?_
        refine V_goto (tgt := 6) dX9_countConflicts_28 (by decide) ?_
        refine ih_6 _ (by omega) (n + 1) (o + 1) rfl ?_ ?_
        · omega
        · rw [show o + 1 - lo = (o - lo) + 1 by omega, ct_s _ (by omega), show lo + (o - lo) = o by omega, c_3, hn]; rfl
  have seg_6 : ∀ (n : Int) (o : Int), (lo ≤ o ∧ o ≤ hi) → (n = ct (fun p => cf P bw cw a (lo + p)) (o - lo)) → V K sX9_countConflicts 0 0 (fm (cO en c κ)) [some (.ref (c 2)), some (.int (zI a)), some (.int (zI lo)), some (.int (zI hi)), some (.int (zI n)), some (.int (zI o))] [] 6 := fun n o ho hn => loop_6 _ n o rfl ho hn
  refine V_iconst dX9_countConflicts_0 ?_
  refine V_istore (L' := [some (.ref (c 2)), some (.int (zI a)), some (.int (zI lo)), some (.int (zI hi)), some (.int (zI 0)), none]) dX9_countConflicts_1 (by decide) rfl ?_
  refine V_iload_n dX9_countConflicts_3 rfl ?_
  refine V_istore (L' := [some (.ref (c 2)), some (.int (zI a)), some (.int (zI lo)), some (.int (zI hi)), some (.int (zI 0)), some (.int (zI lo))]) dX9_countConflicts_4 (by decide) rfl ?_
  refine seg_6 0 lo ?_ ?_
  · omega
  · rw [ct_0 _ (by omega)]
set_option maxRecDepth 100000 in
set_option maxHeartbeats 4000000 in
theorem k_w9_countLive (en : Nat → Nat) (c : Nat → Nat) (κ : St) (t : Int) (P : St) (bw cw : Int) (hp : MI P ∧ CI P κ ∧ Arr P bw cw κ ∧ (0 ≤ t ∧ t < al P)) : MC (EN en) yX9_countLive sX9_countLive [.ref (c 2), .int (zI t)] (fm (cO en c κ)) (fun v w => v = some (.int (zI (ct (fun k => decide (bt P bw cw k < t ∧ t ≤ enE P bw cw k)) (al P)))) ∧ w = fm (cO en c κ)) := by
  refine MC.of (EN.stb en) [some (.ref (c 2)), some (.int (zI t)), none, none] 2 rfl rfl rfl (by simp [Value.category]) (Nat.le_of_ble_eq_true rfl) (fun K hK hR => ?_)
  obtain ⟨hM, hC, hp⟩ := hp
  have hN4 := hM.2.2.1
  obtain ⟨hA, ht⟩ := hp
  have hal := hM.als
  have loop_4 : ∀ (n0 : Nat) (n : Int) (k : Int), (al P - k).toNat = n0 → (0 ≤ k ∧ k ≤ al P) → (n = ct (fun k => decide (bt P bw cw k < t ∧ t ≤ enE P bw cw k)) k) → V K sX9_countLive 0 0 (fm (cO en c κ)) [some (.ref (c 2)), some (.int (zI t)), some (.int (zI n)), some (.int (zI k))] [] 4 := by
    intro n0
    induction n0 using Nat.strongRecOn with
    | _ n0 ih_4 =>
    intro n k hm_4 hk hn
    refine V_iload_n dX9_countLive_4 rfl ?_
    refine V_aload_n dX9_countLive_5 rfl ?_
    refine VO_getf (C0 := RX9) (T := TX9) (N := 10) (ci := 8) (fs := wkF c κ) 2 9 iwX9 (by decide) w115 (Or.inl rfl) rfl (at_wk) rfl dX9_countLive_6 ?_
    refine V_eqT (y := zI (al P)) (congrArg zI hA.1) ?_
    refine V_icmp_ge (tgt := 41) dX9_countLive_9 (by decide) ⟨⟨by omega, by omega⟩, ⟨by omega, by omega⟩⟩ (fun c_1 => ?_) (fun c_1 => ?_)
    · refine V_iload_n dX9_countLive_41 rfl ?_
      refine V_iret hR rfl (Nat.le_of_ble_eq_true rfl) (Nat.le_of_ble_eq_true rfl) dX9_countLive_42 ?_
      exact ⟨ziE (by rw [hn, show k = al P by omega]), rfl⟩
    · have hb_k := bt_b (bw := bw) (cw := cw) (show 0 ≤ k by omega) (show k < al P by omega)
      have he_k := enE_b (bw := bw) (cw := cw) (show 0 ≤ k by omega) (show k < al P by omega)
      refine V_aload_n dX9_countLive_12 rfl ?_
      refine VO_getf (C0 := RX9) (T := TX9) (N := 10) (ci := 8) (fs := wkF c κ) 2 3 iwX9 (by decide) w106 (Or.inl rfl) rfl (at_wk) rfl dX9_countLive_13 ?_
      refine V_iload_n dX9_countLive_16 rfl ?_
      refine VO_iald 6 at_wk_birth ⟨by omega, by omega⟩ (by decide) dX9_countLive_17 ?_
      refine V_eqT (y := zI (bt P bw cw k)) (congrArg zI (hA.2.1 k hk.1 (by omega)).2.1) ?_
      refine V_iload_n dX9_countLive_18 rfl ?_
      refine V_icmp_ge (tgt := 35) dX9_countLive_19 (by decide) ⟨⟨by omega, by omega⟩, ⟨by omega, by omega⟩⟩ (fun c_2 => ?_) (fun c_2 => ?_)
      · refine V_iinc (L' := [some (.ref (c 2)), some (.int (zI t)), some (.int (zI n)), some (.int (zI (k + 1)))]) dX9_countLive_35 (by decide) rfl rfl ?_
        refine V_goto (tgt := 4) dX9_countLive_38 (by decide) ?_
        refine ih_4 _ (by omega) n (k + 1) rfl ?_ ?_
        · omega
        · rw [ct_s _ hk.1, decide_eq_false (by omega), hn]; exact (Int.add_zero _).symm
      · refine V_iload_n dX9_countLive_22 rfl ?_
        refine V_aload_n dX9_countLive_23 rfl ?_
        refine VO_getf (C0 := RX9) (T := TX9) (N := 10) (ci := 8) (fs := wkF c κ) 2 4 iwX9 (by decide) w108 (Or.inl rfl) rfl (at_wk) rfl dX9_countLive_24 ?_
        refine V_iload_n dX9_countLive_27 rfl ?_
        refine VO_iald 7 at_wk_end ⟨by omega, by omega⟩ (by decide) dX9_countLive_28 ?_
        refine V_eqT (y := zI (enE P bw cw k)) (congrArg zI (hA.2.1 k hk.1 (by omega)).2.2) ?_
        refine V_icmp_gt (tgt := 35) dX9_countLive_29 (by decide) ⟨⟨by omega, by omega⟩, ⟨by omega, by omega⟩⟩ (fun c_3 => ?_) (fun c_3 => ?_)
        · refine V_iinc (L' := [some (.ref (c 2)), some (.int (zI t)), some (.int (zI n)), some (.int (zI (k + 1)))]) dX9_countLive_35 (by decide) rfl rfl ?_
          refine V_goto (tgt := 4) dX9_countLive_38 (by decide) ?_
          refine ih_4 _ (by omega) n (k + 1) rfl ?_ ?_
          · omega
          · rw [ct_s _ hk.1, decide_eq_false (by omega), hn]; exact (Int.add_zero _).symm
        · refine V_iinc (L' := [some (.ref (c 2)), some (.int (zI t)), some (.int (zI (n + 1))), some (.int (zI k))]) dX9_countLive_32 (by decide) rfl rfl ?_
          refine V_iinc (L' := [some (.ref (c 2)), some (.int (zI t)), some (.int (zI (n + 1))), some (.int (zI (k + 1)))]) dX9_countLive_35 (by decide) rfl rfl ?_
          refine V_goto (tgt := 4) dX9_countLive_38 (by decide) ?_
          refine ih_4 _ (by omega) (n + 1) (k + 1) rfl ?_ ?_
          · omega
          · rw [ct_s _ hk.1, decide_eq_true (by omega), hn]; rfl
  have seg_4 : ∀ (n : Int) (k : Int), (0 ≤ k ∧ k ≤ al P) → (n = ct (fun k => decide (bt P bw cw k < t ∧ t ≤ enE P bw cw k)) k) → V K sX9_countLive 0 0 (fm (cO en c κ)) [some (.ref (c 2)), some (.int (zI t)), some (.int (zI n)), some (.int (zI k))] [] 4 := fun n k hk hn => loop_4 _ n k rfl hk hn
  refine V_iconst dX9_countLive_0 ?_
  refine V_istore_n (L' := [some (.ref (c 2)), some (.int (zI t)), some (.int (zI 0)), none]) dX9_countLive_1 (by decide) rfl ?_
  refine V_iconst dX9_countLive_2 ?_
  refine V_istore_n (L' := [some (.ref (c 2)), some (.int (zI t)), some (.int (zI 0)), some (.int (zI 0))]) dX9_countLive_3 (by decide) rfl ?_
  refine seg_4 0 0 ?_ ?_
  · omega
  · rw [ct_0 _ (by omega)]

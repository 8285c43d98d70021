/-! the class: the steps dealt -/
theorem cnt_up {f g A : Int → Int} {N k x v : Int} (hk : 0 ≤ k) (h : ∀ u, 0 ≤ u → u < N → f u = A u + ct (fun j => decide (g j = u)) k) (hx : g k = x) (hv : v = f x) (h0 : 0 ≤ x) (h1 : x < N) : ∀ u, 0 ≤ u → u < N → fup f x (v + 1) u = A u + ct (fun j => decide (g j = u)) (k + 1) := by
  intro u a b
  rw [ct_s _ hk]
  by_cases e : u = x
  · rw [e, fup_eq, hv, h x h0 h1, decide_eq_true hx, bz_t]; omega
  · rw [fup_ne e, h u a b, decide_eq_false (by rw [hx]; exact fun z => e z.symm), bz_f]; omega
theorem cum_up {f g : Int → Int} {N n t : Int} (hn : 0 ≤ n) (h : ∀ u, 0 ≤ u → u < N → f u = if u < t then ct (fun j => decide (g j ≤ u)) n else ct (fun j => decide (g j = u)) n) (ht : 1 ≤ t) (htN : t < N) : ∀ u, 0 ≤ u → u < N → fup f t (f t + f (t - 1)) u = if u < t + 1 then ct (fun j => decide (g j ≤ u)) n else ct (fun j => decide (g j = u)) n := by
  intro u a b
  by_cases e : u = t
  · rw [e, fup_eq, h t (by omega) htN, h (t - 1) (by omega) (by omega), if_neg (by omega), if_pos (by omega), if_pos (by omega), Int.add_comm, ← ct_or n hn (fun j _ _ => by simp; omega)]
    exact ct_congr n hn (fun j _ _ => by rw [← Bool.decide_or]; exact decide_eq_decide.mpr (by omega))
  · rw [fup_ne e, h u a b]
    by_cases e2 : u < t
    · rw [if_pos e2, if_pos (by omega)]
    · rw [if_neg e2, if_neg (by omega)]
theorem bt_inj {P : St} {bw cw a b : Int} (ha : 0 ≤ a) (han : a < al P) (hb : 0 ≤ b) (hbn : b < al P) (h : bt P bw cw a = bt P bw cw b) : a = b := rk_inj ha han hb hbn h
/-- birth and order of the cells -/
def BA (P : St) (bw cw : Int) (κ : St) : Prop := ∀ k, 0 ≤ k → k < al P → κ 54 k = bt P bw cw k ∧ κ 56 (bt P bw cw k) = k
set_option maxRecDepth 100000 in
set_option maxHeartbeats 4000000 in
theorem k_w9_setSteps (en : Nat → Nat) (c : Nat → Nat) (κ : St) (P : St) (bw cw : Int) (hp : MI P ∧ CI P κ ∧ (0 ≤ bw ∧ bw ≤ 9) ∧ (0 ≤ cw ∧ cw ≤ 9) ∧ κ 50 0 = al P ∧ TP P bw cw (al P) κ) : MC (EN en) yX9_setSteps sX9_setSteps [.ref (c 2)] (fm (cO en c κ)) (fun v w => ∃ κ2 : St, v = none ∧ w = fm (cO en c κ2) ∧ (CI P κ2) ∧ (BA P bw cw κ2) ∧ (fr [54, 56, 58] κ κ2)) := by
  refine MC.of (EN.stb en) [some (.ref (c 2)), none, none] 2 rfl rfl rfl (by simp [Value.category]) (Nat.le_of_ble_eq_true rfl) (fun K hK hR => ?_)
  obtain ⟨hM, hC, hp⟩ := hp
  have hN4 := hM.2.2.1
  obtain ⟨hb, hw, h50, hT⟩ := hp
  obtain ⟨κ0, hκ0⟩ : ∃ κ0 : St, κ0 = κ := ⟨κ, rfl⟩
  have hF : fr [54, 56, 58] κ0 κ := by rw [hκ0]; exact fr.rf _ _
  have hal := hM.als
  have hT0 : ∀ k, 0 ≤ k → k < al P → κ0 57 k = tm P bw cw k := fun k a b => by rw [hκ0]; exact (hT k a b).2
  rw [← hκ0] at h50
  have loop_77 : ∀ (n0 : Nat) (κ : St) (k : Int), (al P - k).toNat = n0 → (CI P κ) → (0 ≤ k ∧ k ≤ al P) → (fr [54, 56, 58] κ0 κ) → (∀ u, 0 ≤ u → u < 157 → κ 58 u = (fun u => ct (fun j => decide (tm P bw cw j < u)) (al P)) u + ct (fun j => decide (tm P bw cw j = u)) k) → (∀ j, 0 ≤ j → j < k → κ 54 j = bt P bw cw j) → (∀ j, 0 ≤ j → j < k → κ 56 (bt P bw cw j) = j) → V K sX9_setSteps 0 0 (fm (cO en c κ)) [some (.ref (c 2)), some (.int (zI k)), none] [] 77 := by
    intro n0
    induction n0 using Nat.strongRecOn with
    | _ n0 ih_77 =>
    intro κ k hm_77 hC hk hF hN hB hA
    refine V_iload_n dX9_setSteps_77 rfl ?_
    refine V_aload_n dX9_setSteps_78 rfl ?_
    refine VO_getf (C0 := RX9) (T := TX9) (N := 10) (ci := 8) (fs := wkF c κ) 2 9 iwX9 (by decide) w115 (Or.inl rfl) rfl (at_wk) rfl dX9_setSteps_79 ?_
    refine V_eqT (y := zI (al P)) (congrArg zI ((congrFun (hF 50 (by decide)) 0).trans h50)) ?_
    refine V_icmp_ge (tgt := 131) dX9_setSteps_82 (by decide) ⟨⟨by omega, by omega⟩, ⟨by omega, by omega⟩⟩ (fun c_1 => ?_) (fun c_1 => ?_)
    · refine V_vret hR rfl (Nat.le_of_ble_eq_true rfl) (Nat.le_of_ble_eq_true rfl) dX9_setSteps_131 ?_
      exact ⟨κ, rfl, rfl, hC, fun k a b => ⟨hB k a (by omega), hA k a (by omega)⟩, by rw [← hκ0]; exact hF⟩
    · refine V_aload_n dX9_setSteps_85 rfl ?_
      refine VO_getf (C0 := RX9) (T := TX9) (N := 10) (ci := 8) (fs := wkF c κ) 2 7 iwX9 (by decide) w113 (Or.inl rfl) rfl (at_wk) rfl dX9_setSteps_86 ?_
      refine V_aload_n dX9_setSteps_89 rfl ?_
      refine VO_getf (C0 := RX9) (T := TX9) (N := 10) (ci := 8) (fs := wkF c κ) 2 6 iwX9 (by decide) w112 (Or.inl rfl) rfl (at_wk) rfl dX9_setSteps_90 ?_
      refine V_iload_n dX9_setSteps_93 rfl ?_
      refine VO_iald 9 at_wk_time ⟨by omega, by omega⟩ (by decide) dX9_setSteps_94 ?_
      have htb := tm_b hM hb hw hk.1 (show k < al P by omega)
      have hbt : κ 58 (tm P bw cw k) = bt P bw cw k := (hN _ htb.1 (by omega)).trans (rk_split hk.1 (by omega))
      have hbb := bt_b (bw := bw) (cw := cw) hk.1 (show k < al P by omega)
      refine V_eqT (y := zI (tm P bw cw k)) (congrArg zI ((congrFun (hF 57 (by decide)) _).trans (hT0 k hk.1 (by omega)))) ?_
      refine VO_iald 10 at_wk_nextStep ⟨by omega, by omega⟩ (by decide) dX9_setSteps_95 ?_
      refine V_eqT (y := zI (bt P bw cw k)) (congrArg zI hbt) ?_
      refine V_istore_n (L' := [some (.ref (c 2)), some (.int (zI k)), some (.int (zI (bt P bw cw k)))]) dX9_setSteps_96 (by decide) rfl ?_
      refine V_aload_n dX9_setSteps_97 rfl ?_
      refine VO_getf (C0 := RX9) (T := TX9) (N := 10) (ci := 8) (fs := wkF c κ) 2 7 iwX9 (by decide) w113 (Or.inl rfl) rfl (at_wk) rfl dX9_setSteps_98 ?_
      refine V_aload_n dX9_setSteps_101 rfl ?_
      refine VO_getf (C0 := RX9) (T := TX9) (N := 10) (ci := 8) (fs := wkF c κ) 2 6 iwX9 (by decide) w112 (Or.inl rfl) rfl (at_wk) rfl dX9_setSteps_102 ?_
      refine V_iload_n dX9_setSteps_105 rfl ?_
      refine VO_iald 9 at_wk_time ⟨by omega, by omega⟩ (by decide) dX9_setSteps_106 ?_
      refine V_eqT (y := zI (tm P bw cw k)) (congrArg zI ((congrFun (hF 57 (by decide)) _).trans (hT0 k hk.1 (by omega)))) ?_
      refine V_iload_n dX9_setSteps_107 rfl ?_
      refine V_iconst dX9_setSteps_108 ?_
      refine V_iadd dX9_setSteps_109 ?_
      refine VO_iast 10 at_wk_nextStep ⟨by omega, by omega⟩ (by decide) dX9_setSteps_110 (st_wk_nextStep (tm P bw cw k) ((bt P bw cw k) + 1)) ?_
      refine V_aload_n dX9_setSteps_111 rfl ?_
      refine VO_getf (C0 := RX9) (T := TX9) (N := 10) (ci := 8) (fs := wkF c (up κ 58 (tm P bw cw k) ((bt P bw cw k) + 1))) 2 3 iwX9 (by decide) w106 (Or.inl rfl) rfl (at_wk) rfl dX9_setSteps_112 ?_
      refine V_iload_n dX9_setSteps_115 rfl ?_
      refine V_iload_n dX9_setSteps_116 rfl ?_
      refine VO_iast 6 at_wk_birth ⟨by omega, by omega⟩ (by decide) dX9_setSteps_117 (st_wk_birth k (bt P bw cw k)) ?_
      refine V_aload_n dX9_setSteps_118 rfl ?_
      refine VO_getf (C0 := RX9) (T := TX9) (N := 10) (ci := 8) (fs := wkF c (up (up κ 58 (tm P bw cw k) ((bt P bw cw k) + 1)) 54 k (bt P bw cw k))) 2 5 iwX9 (by decide) w110 (Or.inl rfl) rfl (at_wk) rfl dX9_setSteps_119 ?_
      refine V_iload_n dX9_setSteps_122 rfl ?_
      refine V_iload_n dX9_setSteps_123 rfl ?_
      refine VO_iast 8 at_wk_cellAt ⟨by omega, by omega⟩ (by decide) dX9_setSteps_124 (st_wk_cellAt (bt P bw cw k) k) ?_
      refine V_iinc (L' := [some (.ref (c 2)), some (.int (zI (k + 1))), some (.int (zI (bt P bw cw k)))]) dX9_setSteps_125 (by decide) rfl rfl ?_
      refine V_goto (tgt := 77) dX9_setSteps_128 (by decide) ?_
      refine V_mask (L' := [some (.ref (c 2)), some (.int (zI (k + 1))), none]) [true, true, false] rfl ?_
      refine ih_77 _ (by omega) (up (up (up κ 58 (tm P bw cw k) ((bt P bw cw k) + 1)) 54 k (bt P bw cw k)) 56 (bt P bw cw k) k) (k + 1) rfl ?_ ?_ ?_ ?_ ?_ ?_
      · exact ((((((hC).up (by decide))).up (by decide))).up (by decide))
      · omega
      · exact ((((((hF).upd (by decide))).upd (by decide))).upd (by decide))
      · exact cnt_up hk.1 hN rfl hbt.symm htb.1 (by omega)
      · exact fun j a b => by
          show fup (κ 54) k (bt P bw cw k) j = _
          by_cases e : j = k
          · rw [e, fup_eq]
          · rw [fup_ne e]; exact hB j a (by omega)
      · exact fun j a b => by
          show fup (κ 56) (bt P bw cw k) k (bt P bw cw j) = j
          by_cases e : j = k
          · rw [e, fup_eq]
          · rw [fup_ne (fun h => e (bt_inj a (by omega) hk.1 (by omega) h))]; exact hA j a (by omega)
  have seg_77 : ∀ (κ : St) (k : Int), (CI P κ) → (0 ≤ k ∧ k ≤ al P) → (fr [54, 56, 58] κ0 κ) → (∀ u, 0 ≤ u → u < 157 → κ 58 u = (fun u => ct (fun j => decide (tm P bw cw j < u)) (al P)) u + ct (fun j => decide (tm P bw cw j = u)) k) → (∀ j, 0 ≤ j → j < k → κ 54 j = bt P bw cw j) → (∀ j, 0 ≤ j → j < k → κ 56 (bt P bw cw j) = j) → V K sX9_setSteps 0 0 (fm (cO en c κ)) [some (.ref (c 2)), some (.int (zI k)), none] [] 77 := fun κ k hC hk hF hN hB hA => loop_77 _ κ k rfl hC hk hF hN hB hA
  have loop_43 : ∀ (n0 : Nat) (κ : St) (t : Int), (158 - t).toNat = n0 → (CI P κ) → (1 ≤ t ∧ t ≤ 158) → (fr [54, 56, 58] κ0 κ) → (∀ u, 0 ≤ u → u < 158 → κ 58 u = if u < t then ct (fun j => decide ((fun j => tm P bw cw j + 1) j ≤ u)) (al P) else ct (fun j => decide ((fun j => tm P bw cw j + 1) j = u)) (al P)) → V K sX9_setSteps 0 0 (fm (cO en c κ)) [some (.ref (c 2)), some (.int (zI t)), none] [] 43 := by
    intro n0
    induction n0 using Nat.strongRecOn with
    | _ n0 ih_43 =>
    intro κ t hm_43 hC ht hF hN
    refine V_iload_n dX9_setSteps_43 rfl ?_
    refine V_aload_n dX9_setSteps_44 rfl ?_
    refine VO_getf (C0 := RX9) (T := TX9) (N := 10) (ci := 8) (fs := wkF c κ) 2 7 iwX9 (by decide) w113 (Or.inl rfl) rfl (at_wk) rfl dX9_setSteps_45 ?_
    refine VO_alen 10 (at_wk_nextStep) (fun _ => rfl) dX9_setSteps_48 ?_
    show V K sX9_setSteps 0 0 (fm (cO en c κ)) [some (.ref (c 2)), some (.int (zI t)), none] [.int (zI 158), .int (zI t)] 49
    refine V_icmp_ge (tgt := 75) dX9_setSteps_49 (by decide) ⟨⟨by omega, by omega⟩, ⟨by omega, by omega⟩⟩ (fun c_2 => ?_) (fun c_2 => ?_)
    · refine V_iconst dX9_setSteps_75 ?_
      refine V_istore_n (L' := [some (.ref (c 2)), some (.int (zI 0)), none]) dX9_setSteps_76 (by decide) rfl ?_
      refine seg_77 κ 0 ?_ ?_ ?_ ?_ ?_ ?_
      · exact hC
      · omega
      · exact hF
      · exact fun u a b => by
          rw [hN u a (by omega), if_pos (by omega), ct_0 (k := 0) (fun j => decide (tm P bw cw j = u)) (by omega), Int.add_zero]
          exact ct_congr _ hal.1 (fun j _ _ => decide_eq_decide.mpr (show tm P bw cw j + 1 ≤ u ↔ tm P bw cw j < u by omega))
      · exact fun j a b => absurd b (by omega)
      · exact fun j a b => absurd b (by omega)
    · refine V_aload_n dX9_setSteps_52 rfl ?_
      refine VO_getf (C0 := RX9) (T := TX9) (N := 10) (ci := 8) (fs := wkF c κ) 2 7 iwX9 (by decide) w113 (Or.inl rfl) rfl (at_wk) rfl dX9_setSteps_53 ?_
      refine V_iload_n dX9_setSteps_56 rfl ?_
      refine V_dup2 dX9_setSteps_57 rfl rfl ?_
      refine VO_iald 10 at_wk_nextStep ⟨by omega, by omega⟩ (by decide) dX9_setSteps_58 ?_
      refine V_aload_n dX9_setSteps_59 rfl ?_
      refine VO_getf (C0 := RX9) (T := TX9) (N := 10) (ci := 8) (fs := wkF c κ) 2 7 iwX9 (by decide) w113 (Or.inl rfl) rfl (at_wk) rfl dX9_setSteps_60 ?_
      refine V_iload_n dX9_setSteps_63 rfl ?_
      refine V_iconst dX9_setSteps_64 ?_
      refine V_isub dX9_setSteps_65 ?_
      refine VO_iald 10 at_wk_nextStep ⟨by omega, by omega⟩ (by decide) dX9_setSteps_66 ?_
      refine V_iadd dX9_setSteps_67 ?_
      refine VO_iast 10 at_wk_nextStep ⟨by omega, by omega⟩ (by decide) dX9_setSteps_68 (st_wk_nextStep t ((κ 58 t) + (κ 58 (t - 1)))) ?_
      refine V_iinc (L' := [some (.ref (c 2)), some (.int (zI (t + 1))), none]) dX9_setSteps_69 (by decide) rfl rfl ?_
      refine V_goto (tgt := 43) dX9_setSteps_72 (by decide) ?_
      refine ih_43 _ (by omega) (up κ 58 t ((κ 58 t) + (κ 58 (t - 1)))) (t + 1) rfl ?_ ?_ ?_ ?_
      · exact ((hC).up (by decide))
      · omega
      · exact ((hF).upd (by decide))
      · exact cum_up hal.1 hN ht.1 (by omega)
  have seg_43 : ∀ (κ : St) (t : Int), (CI P κ) → (1 ≤ t ∧ t ≤ 158) → (fr [54, 56, 58] κ0 κ) → (∀ u, 0 ≤ u → u < 158 → κ 58 u = if u < t then ct (fun j => decide ((fun j => tm P bw cw j + 1) j ≤ u)) (al P) else ct (fun j => decide ((fun j => tm P bw cw j + 1) j = u)) (al P)) → V K sX9_setSteps 0 0 (fm (cO en c κ)) [some (.ref (c 2)), some (.int (zI t)), none] [] 43 := fun κ t hC ht hF hN => loop_43 _ κ t rfl hC ht hF hN
  have loop_10 : ∀ (n0 : Nat) (κ : St) (k : Int), (al P - k).toNat = n0 → (CI P κ) → (0 ≤ k ∧ k ≤ al P) → (fr [54, 56, 58] κ0 κ) → (∀ u, 0 ≤ u → u < 158 → κ 58 u = (fun _ => (0 : Int)) u + ct (fun j => decide ((fun j => tm P bw cw j + 1) j = u)) k) → V K sX9_setSteps 0 0 (fm (cO en c κ)) [some (.ref (c 2)), some (.int (zI k)), none] [] 10 := by
    intro n0
    induction n0 using Nat.strongRecOn with
    | _ n0 ih_10 =>
    intro κ k hm_10 hC hk hF hN
    refine V_iload_n dX9_setSteps_10 rfl ?_
    refine V_aload_n dX9_setSteps_11 rfl ?_
    refine VO_getf (C0 := RX9) (T := TX9) (N := 10) (ci := 8) (fs := wkF c κ) 2 9 iwX9 (by decide) w115 (Or.inl rfl) rfl (at_wk) rfl dX9_setSteps_12 ?_
    refine V_eqT (y := zI (al P)) (congrArg zI ((congrFun (hF 50 (by decide)) 0).trans h50)) ?_
    refine V_icmp_ge (tgt := 41) dX9_setSteps_15 (by decide) ⟨⟨by omega, by omega⟩, ⟨by omega, by omega⟩⟩ (fun c_3 => ?_) (fun c_3 => ?_)
    · refine V_iconst dX9_setSteps_41 ?_
      refine V_istore_n (L' := [some (.ref (c 2)), some (.int (zI 1)), none]) dX9_setSteps_42 (by decide) rfl ?_
      refine seg_43 κ 1 ?_ ?_ ?_ ?_
      · exact hC
      · omega
      · exact hF
      · exact fun u a b => by
          have ek : k = al P := by omega
          rw [hN u a b, ek]
          by_cases e : u < 1
          · rw [if_pos e, ct_none _ hal.1 (fun j a b => by have := tm_b hM hb hw a b; simp; omega), ct_none _ hal.1 (fun j a b => by have := tm_b hM hb hw a b; simp; omega)]; rfl
          · rw [if_neg e]; exact Int.zero_add _
    · refine V_aload_n dX9_setSteps_18 rfl ?_
      refine VO_getf (C0 := RX9) (T := TX9) (N := 10) (ci := 8) (fs := wkF c κ) 2 7 iwX9 (by decide) w113 (Or.inl rfl) rfl (at_wk) rfl dX9_setSteps_19 ?_
      refine V_aload_n dX9_setSteps_22 rfl ?_
      refine VO_getf (C0 := RX9) (T := TX9) (N := 10) (ci := 8) (fs := wkF c κ) 2 6 iwX9 (by decide) w112 (Or.inl rfl) rfl (at_wk) rfl dX9_setSteps_23 ?_
      refine V_iload_n dX9_setSteps_26 rfl ?_
      refine VO_iald 9 at_wk_time ⟨by omega, by omega⟩ (by decide) dX9_setSteps_27 ?_
      have htb := tm_b hM hb hw hk.1 (show k < al P by omega)
      refine V_eqT (y := zI (tm P bw cw k)) (congrArg zI ((congrFun (hF 57 (by decide)) _).trans (hT0 k hk.1 (by omega)))) ?_
      refine V_iconst dX9_setSteps_28 ?_
      refine V_iadd dX9_setSteps_29 ?_
      refine V_dup2 dX9_setSteps_30 rfl rfl ?_
      refine VO_iald 10 at_wk_nextStep ⟨by omega, by omega⟩ (by decide) dX9_setSteps_31 ?_
      refine V_iconst dX9_setSteps_32 ?_
      refine V_iadd dX9_setSteps_33 ?_
      refine VO_iast 10 at_wk_nextStep ⟨by omega, by omega⟩ (by decide) dX9_setSteps_34 (st_wk_nextStep ((tm P bw cw k) + 1) ((κ 58 ((tm P bw cw k) + 1)) + 1)) ?_
      refine V_iinc (L' := [some (.ref (c 2)), some (.int (zI (k + 1))), none]) dX9_setSteps_35 (by decide) rfl rfl ?_
      refine V_goto (tgt := 10) dX9_setSteps_38 (by decide) ?_
      refine ih_10 _ (by omega) (up κ 58 ((tm P bw cw k) + 1) ((κ 58 ((tm P bw cw k) + 1)) + 1)) (k + 1) rfl ?_ ?_ ?_ ?_
      · exact ((hC).up (by decide))
      · omega
      · exact ((hF).upd (by decide))
      · exact cnt_up hk.1 hN rfl rfl (by omega) (by omega)
  have seg_10 : ∀ (κ : St) (k : Int), (CI P κ) → (0 ≤ k ∧ k ≤ al P) → (fr [54, 56, 58] κ0 κ) → (∀ u, 0 ≤ u → u < 158 → κ 58 u = (fun _ => (0 : Int)) u + ct (fun j => decide ((fun j => tm P bw cw j + 1) j = u)) k) → V K sX9_setSteps 0 0 (fm (cO en c κ)) [some (.ref (c 2)), some (.int (zI k)), none] [] 10 := fun κ k hC hk hF hN => loop_10 _ κ k rfl hC hk hF hN
  refine V_aload_n dX9_setSteps_0 rfl ?_
  refine VO_getf (C0 := RX9) (T := TX9) (N := 10) (ci := 8) (fs := wkF c κ) 2 7 iwX9 (by decide) w113 (Or.inl rfl) rfl (at_wk) rfl dX9_setSteps_1 ?_
  refine V_iconst dX9_setSteps_4 ?_
  refine VO_callSB (As := [.ref (c 10), .int (zI 0)]) (i := 10) at_wk_nextStep hK (k_fill en (c 10) 158 (κ 58) 0 (by decide)) mokJ7_fill_53178 w333 w334 ⟨Nat.le_of_ble_eq_true rfl, Nat.le_of_ble_eq_true rfl⟩ rfl (Nat.le_of_ble_eq_true rfl) ⟨Nat.le_of_ble_eq_true rfl, Nat.le_of_ble_eq_true rfl⟩ dX9_setSteps_5 (fun v w p_4 => ?_)
  obtain ⟨rfl, rfl⟩ := p_4
  refine ⟨_, rfl, ?_⟩
  rw [stw_wk_nextStep _]
  show V K sX9_setSteps 0 0 (fm (cO en c (upW κ 58 (fillF 158 (κ 58) 0)))) [some (.ref (c 2)), none, none] [] 8
  refine V_iconst dX9_setSteps_8 ?_
  refine V_istore_n (L' := [some (.ref (c 2)), some (.int (zI 0)), none]) dX9_setSteps_9 (by decide) rfl ?_
  refine seg_10 (upW κ 58 (fillF 158 (κ 58) 0)) 0 ?_ ?_ ?_ ?_
  · exact ((hC).upW (by first | decide | omega))
  · omega
  · exact ((hF).updW (by decide))
  · exact fun u a b => by
      rw [ct_0 _ (by omega)]
      exact if_pos ⟨a, b⟩

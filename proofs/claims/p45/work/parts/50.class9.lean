/-! the class: most live at once -/
theorem lvE_b {P : St} (hM : MI P) {bw cw : Int} {sel : Int → Bool} (u : Int) : 0 ≤ lvE P bw cw sel u ∧ lvE P bw cw sel u ≤ 256 := lvN_b hM u
theorem Arr.fr {P κ κ2 : St} {bw cw : Int} {ks : List Nat} (h : Arr P bw cw κ) (hf : fr ks κ κ2) (hs : ks.all (fun k => decide (k < 50 ∨ 56 < k)) = true) : Arr P bw cw κ2 := by
  have e : ∀ k : Nat, 50 ≤ k → k ≤ 56 → κ2 k = κ k := fun k a b => hf k (fun z => by have := List.all_eq_true.mp hs k z; simp at this; omega)
  unfold Arr
  rw [e 50 (by decide) (by decide), e 51 (by decide) (by decide), e 52 (by decide) (by decide), e 53 (by decide) (by decide), e 54 (by decide) (by decide), e 55 (by decide) (by decide), e 56 (by decide) (by decide)]
  exact h
set_option maxRecDepth 100000 in
set_option maxHeartbeats 4000000 in
theorem k_w9_mostLiveAmong (en : Nat → Nat) (c : Nat → Nat) (κ : St) (lo : Int) (hi : Int) (P : St) (bw cw : Int) (hp : MI P ∧ CI P κ ∧ Arr P bw cw κ ∧ (0 ≤ lo ∧ lo ≤ hi ∧ hi ≤ al P)) : MC (EN en) yX9_mostLiveAmong sX9_mostLiveAmong [.ref (c 2), .int (zI lo), .int (zI hi)] (fm (cO en c κ)) (fun v w => ∃ κ2 : St, v = some (.int (zI (mxv (lvE P bw cw (selR lo hi)) (al P)))) ∧ w = fm (cO en c κ2) ∧ (CI P κ2) ∧ (Arr P bw cw κ2) ∧ (fr [59] κ κ2)) := by
  refine MC.of (EN.stb en) [some (.ref (c 2)), some (.int (zI lo)), some (.int (zI hi)), none, none, none] 3 rfl rfl rfl (by simp [Value.category]) (Nat.le_of_ble_eq_true rfl) (fun K hK hR => ?_)
  obtain ⟨hM, hC, hp⟩ := hp
  have hN4 := hM.2.2.1
  obtain ⟨hA, hl⟩ := hp
  obtain ⟨κ0, hκ0⟩ : ∃ κ0 : St, κ0 = κ := ⟨κ, rfl⟩
  have hF : fr [59] κ0 κ := by rw [hκ0]; exact fr.rf _ _
  have hal := hM.als
  rw [← hκ0] at hA
  have loop_63 : ∀ (n0 : Nat) (κ : St) (v : Int) (m : Int) (t : Int), (al P - t).toNat = n0 → (CI P κ) → (fr [59] κ0 κ) → (∀ u, 0 ≤ u → u < 258 → κ 59 u = lvA P bw cw (selR lo hi) u) → (0 ≤ t ∧ t ≤ al P) → (v = lvS P bw cw (selR lo hi) (t - 1)) → (m = mxv (lvE P bw cw (selR lo hi)) t) → V K sX9_mostLiveAmong 0 0 (fm (cO en c κ)) [some (.ref (c 2)), some (.int (zI lo)), some (.int (zI hi)), some (.int (zI v)), some (.int (zI m)), some (.int (zI t))] [] 63 := by
    intro n0
    induction n0 using Nat.strongRecOn with
    | _ n0 ih_63 =>
    intro κ v m t hm_63 hC hF hH ht hv hm
    refine V_iload dX9_mostLiveAmong_63 rfl ?_
    refine V_aload_n dX9_mostLiveAmong_65 rfl ?_
    refine VO_getf (C0 := RX9) (T := TX9) (N := 10) (ci := 8) (fs := wkF c κ) 2 9 iwX9 (by decide) w115 (Or.inl rfl) rfl (at_wk) rfl dX9_mostLiveAmong_66 ?_
    refine V_eqT (y := zI (al P)) (congrArg zI ((congrFun (hF 50 (by decide)) 0).trans hA.1)) ?_
    refine V_icmp_ge (tgt := 96) dX9_mostLiveAmong_69 (by decide) ⟨⟨by omega, by omega⟩, ⟨by omega, by omega⟩⟩ (fun c_1 => ?_) (fun c_1 => ?_)
    · refine V_iload dX9_mostLiveAmong_96 rfl ?_
      refine V_iret hR rfl (Nat.le_of_ble_eq_true rfl) (Nat.le_of_ble_eq_true rfl) dX9_mostLiveAmong_98 ?_
      exact ⟨κ, ziE (by rw [hm, show t = al P by omega]), rfl, hC, hA.fr hF (by decide), by rw [← hκ0]; exact hF⟩
    · refine V_iload_n dX9_mostLiveAmong_72 rfl ?_
      refine V_aload_n dX9_mostLiveAmong_73 rfl ?_
      refine VO_getf (C0 := RX9) (T := TX9) (N := 10) (ci := 8) (fs := wkF c κ) 2 8 iwX9 (by decide) w114 (Or.inl rfl) rfl (at_wk) rfl dX9_mostLiveAmong_74 ?_
      refine V_iload dX9_mostLiveAmong_77 rfl ?_
      refine VO_iald 11 at_wk_change ⟨by omega, by omega⟩ (by decide) dX9_mostLiveAmong_79 ?_
      refine V_eqT (y := zI (lvA P bw cw (selR lo hi) t)) (congrArg zI (hH t ht.1 (by omega))) ?_
      refine V_iadd dX9_mostLiveAmong_80 ?_
      refine V_eqT (y := zI (lvE P bw cw (selR lo hi) t)) (congrArg zI (by rw [hv, ← lvS_s hM]; exact lvS_N hM t)) ?_
      refine V_istore_n (L' := [some (.ref (c 2)), some (.int (zI lo)), some (.int (zI hi)), some (.int (zI (lvE P bw cw (selR lo hi) t))), some (.int (zI m)), some (.int (zI t))]) dX9_mostLiveAmong_81 (by decide) rfl ?_
      have hb1 := lvE_b hM (bw := bw) (cw := cw) (sel := selR lo hi) t
      have hb2 : 0 ≤ m ∧ m ≤ 256 := by rw [hm]; exact mxv_b (by decide) t ht.1 (fun j a b => (lvE_b hM j).2)
      refine V_iload dX9_mostLiveAmong_82 rfl ?_
      refine V_iload_n dX9_mostLiveAmong_84 rfl ?_
      refine V_callSE (As := [.int (zI m), .int (zI (lvE P bw cw (selR lo hi) t))]) hK (k_max en m (lvE P bw cw (selR lo hi) t) (⟨⟨by omega, by omega⟩, ⟨by omega, by omega⟩⟩)) mokJ9_max_7cf53 w353 w354 ⟨Nat.le_of_ble_eq_true rfl, Nat.le_of_ble_eq_true rfl⟩ rfl (Nat.le_of_ble_eq_true rfl) ⟨Nat.le_of_ble_eq_true rfl, Nat.le_of_ble_eq_true rfl⟩ dX9_mostLiveAmong_85 (fun v w p_2 => ?_)
      obtain ⟨rfl, rfl⟩ := p_2
      show V K sX9_mostLiveAmong 0 0 (fm (cO en c κ)) [some (.ref (c 2)), some (.int (zI lo)), some (.int (zI hi)), some (.int (zI (lvE P bw cw (selR lo hi) t))), some (.int (zI m)), some (.int (zI t))] [.int (zI (maxI m (lvE P bw cw (selR lo hi) t)))] 88
      refine V_istore (L' := [some (.ref (c 2)), some (.int (zI lo)), some (.int (zI hi)), some (.int (zI (lvE P bw cw (selR lo hi) t))), some (.int (zI (maxI m (lvE P bw cw (selR lo hi) t)))), some (.int (zI t))]) dX9_mostLiveAmong_88 (by decide) rfl ?_
      refine V_iinc (L' := [some (.ref (c 2)), some (.int (zI lo)), some (.int (zI hi)), some (.int (zI (lvE P bw cw (selR lo hi) t))), some (.int (zI (maxI m (lvE P bw cw (selR lo hi) t)))), some (.int (zI (t + 1)))]) dX9_mostLiveAmong_90 (by decide) rfl rfl ?_
      refine V_goto (tgt := 63) dX9_mostLiveAmong_93 (by decide) ?_
      refine ih_63 _ (by omega) κ (lvE P bw cw (selR lo hi) t) (maxI m (lvE P bw cw (selR lo hi) t)) (t + 1) rfl ?_ ?_ ?_ ?_ ?_ ?_
      · exact hC
      · exact hF
      · exact hH
      · omega
      · rw [show t + 1 - 1 = t by omega]; exact (lvS_N hM t).symm
      · rw [mxv_s _ ht.1, hm]; rfl
  have seg_63 : ∀ (κ : St) (v : Int) (m : Int) (t : Int), (CI P κ) → (fr [59] κ0 κ) → (∀ u, 0 ≤ u → u < 258 → κ 59 u = lvA P bw cw (selR lo hi) u) → (0 ≤ t ∧ t ≤ al P) → (v = lvS P bw cw (selR lo hi) (t - 1)) → (m = mxv (lvE P bw cw (selR lo hi)) t) → V K sX9_mostLiveAmong 0 0 (fm (cO en c κ)) [some (.ref (c 2)), some (.int (zI lo)), some (.int (zI hi)), some (.int (zI v)), some (.int (zI m)), some (.int (zI t))] [] 63 := fun κ v m t hC hF hH ht hv hm => loop_63 _ κ v m t rfl hC hF hH ht hv hm
  have loop_10 : ∀ (n0 : Nat) (κ : St) (n : Int), (hi - n).toNat = n0 → (CI P κ) → (lo ≤ n ∧ n ≤ hi) → (fr [59] κ0 κ) → (∀ u, 0 ≤ u → u < 258 → κ 59 u = ct (fun k => selR lo n k && decide (bt P bw cw k + 1 = u)) (al P) - ct (fun k => selR lo n k && decide (enE P bw cw k + 1 = u)) (al P)) → V K sX9_mostLiveAmong 0 0 (fm (cO en c κ)) [some (.ref (c 2)), some (.int (zI lo)), some (.int (zI hi)), some (.int (zI n)), none, none] [] 10 := by
    intro n0
    induction n0 using Nat.strongRecOn with
    | _ n0 ih_10 =>
    intro κ n hm_10 hC hn hF hH
    refine V_iload_n dX9_mostLiveAmong_10 rfl ?_
    refine V_iload_n dX9_mostLiveAmong_11 rfl ?_
    refine V_icmp_ge (tgt := 55) dX9_mostLiveAmong_12 (by decide) ⟨⟨by omega, by omega⟩, ⟨by omega, by omega⟩⟩ (fun c_3 => ?_) (fun c_3 => ?_)
    · refine V_iconst dX9_mostLiveAmong_55 ?_
      refine V_istore_n (L' := [some (.ref (c 2)), some (.int (zI lo)), some (.int (zI hi)), some (.int (zI 0)), none, none]) dX9_mostLiveAmong_56 (by decide) rfl ?_
      refine V_iconst dX9_mostLiveAmong_57 ?_
      refine V_istore (L' := [some (.ref (c 2)), some (.int (zI lo)), some (.int (zI hi)), some (.int (zI 0)), some (.int (zI 0)), none]) dX9_mostLiveAmong_58 (by decide) rfl ?_
      refine V_iconst dX9_mostLiveAmong_60 ?_
      refine V_istore (L' := [some (.ref (c 2)), some (.int (zI lo)), some (.int (zI hi)), some (.int (zI 0)), some (.int (zI 0)), some (.int (zI 0))]) dX9_mostLiveAmong_61 (by decide) rfl ?_
      refine seg_63 κ 0 0 0 ?_ ?_ ?_ ?_ ?_ ?_
      · exact hC
      · exact hF
      · exact fun u a b => by
          rw [hH u a b, show n = hi by omega]; rfl
      · omega
      · exact (lvS_0 hM).symm
      · exact rfl
    · refine V_aload_n dX9_mostLiveAmong_15 rfl ?_
      refine VO_getf (C0 := RX9) (T := TX9) (N := 10) (ci := 8) (fs := wkF c κ) 2 8 iwX9 (by decide) w114 (Or.inl rfl) rfl (at_wk) rfl dX9_mostLiveAmong_16 ?_
      refine V_aload_n dX9_mostLiveAmong_19 rfl ?_
      refine VO_getf (C0 := RX9) (T := TX9) (N := 10) (ci := 8) (fs := wkF c κ) 2 3 iwX9 (by decide) w106 (Or.inl rfl) rfl (at_wk) rfl dX9_mostLiveAmong_20 ?_
      refine V_iload_n dX9_mostLiveAmong_23 rfl ?_
      refine VO_iald 6 at_wk_birth ⟨by omega, by omega⟩ (by decide) dX9_mostLiveAmong_24 ?_
      have hb_n := bt_b (bw := bw) (cw := cw) (show 0 ≤ n by omega) (show n < al P by omega)
      have he_n := enE_b (bw := bw) (cw := cw) (show 0 ≤ n by omega) (show n < al P by omega)
      refine V_eqT (y := zI (bt P bw cw n)) (congrArg zI ((congrFun (hF 54 (by decide)) n).trans (hA.2.1 n (by omega) (by omega)).2.1)) ?_
      refine V_iconst dX9_mostLiveAmong_25 ?_
      refine V_iadd dX9_mostLiveAmong_26 ?_
      refine V_dup2 dX9_mostLiveAmong_27 rfl rfl ?_
      refine VO_iald 11 at_wk_change ⟨by omega, by omega⟩ (by decide) dX9_mostLiveAmong_28 ?_
      refine V_iconst dX9_mostLiveAmong_29 ?_
      refine V_iadd dX9_mostLiveAmong_30 ?_
      refine VO_iast 11 at_wk_change ⟨by omega, by omega⟩ (by decide) dX9_mostLiveAmong_31 (st_wk_change ((bt P bw cw n) + 1) ((κ 59 ((bt P bw cw n) + 1)) + 1)) ?_
      refine V_aload_n dX9_mostLiveAmong_32 rfl ?_
      refine VO_getf (C0 := RX9) (T := TX9) (N := 10) (ci := 8) (fs := wkF c (up κ 59 ((bt P bw cw n) + 1) ((κ 59 ((bt P bw cw n) + 1)) + 1))) 2 8 iwX9 (by decide) w114 (Or.inl rfl) rfl (at_wk) rfl dX9_mostLiveAmong_33 ?_
      refine V_aload_n dX9_mostLiveAmong_36 rfl ?_
      refine VO_getf (C0 := RX9) (T := TX9) (N := 10) (ci := 8) (fs := wkF c (up κ 59 ((bt P bw cw n) + 1) ((κ 59 ((bt P bw cw n) + 1)) + 1))) 2 4 iwX9 (by decide) w108 (Or.inl rfl) rfl (at_wk) rfl dX9_mostLiveAmong_37 ?_
      refine V_iload_n dX9_mostLiveAmong_40 rfl ?_
      refine VO_iald 7 at_wk_end ⟨by omega, by omega⟩ (by decide) dX9_mostLiveAmong_41 ?_
      refine V_eqT (y := zI (enE P bw cw n)) (congrArg zI ((congrFun (((hF).upd (by decide)) 55 (by decide)) n).trans (hA.2.1 n (by omega) (by omega)).2.2)) ?_
      refine V_iconst dX9_mostLiveAmong_42 ?_
      refine V_iadd dX9_mostLiveAmong_43 ?_
      refine V_dup2 dX9_mostLiveAmong_44 rfl rfl ?_
      refine VO_iald 11 at_wk_change ⟨by omega, by omega⟩ (by decide) dX9_mostLiveAmong_45 ?_
      refine V_iconst dX9_mostLiveAmong_46 ?_
      refine V_isub dX9_mostLiveAmong_47 ?_
      refine VO_iast 11 at_wk_change ⟨by omega, by omega⟩ (by decide) dX9_mostLiveAmong_48 (st_wk_change ((enE P bw cw n) + 1) (((up κ 59 ((bt P bw cw n) + 1) ((κ 59 ((bt P bw cw n) + 1)) + 1)) 59 ((enE P bw cw n) + 1)) - 1)) ?_
      refine V_iinc (L' := [some (.ref (c 2)), some (.int (zI lo)), some (.int (zI hi)), some (.int (zI (n + 1))), none, none]) dX9_mostLiveAmong_49 (by decide) rfl rfl ?_
      refine V_goto (tgt := 10) dX9_mostLiveAmong_52 (by decide) ?_
      refine ih_10 _ (by omega) (up (up κ 59 ((bt P bw cw n) + 1) ((κ 59 ((bt P bw cw n) + 1)) + 1)) 59 ((enE P bw cw n) + 1) (((up κ 59 ((bt P bw cw n) + 1) ((κ 59 ((bt P bw cw n) + 1)) + 1)) 59 ((enE P bw cw n) + 1)) - 1)) (n + 1) rfl ?_ ?_ ?_ ?_
      · exact ((((hC).up (by decide))).up (by decide))
      · omega
      · exact ((((hF).upd (by decide))).upd (by decide))
      · exact fun u a b => by
          rw [selR_s hl.1 hn.1 (by omega), selR_s hl.1 hn.1 (by omega)]
          exact chg (hH u a b)
  have seg_10 : ∀ (κ : St) (n : Int), (CI P κ) → (lo ≤ n ∧ n ≤ hi) → (fr [59] κ0 κ) → (∀ u, 0 ≤ u → u < 258 → κ 59 u = ct (fun k => selR lo n k && decide (bt P bw cw k + 1 = u)) (al P) - ct (fun k => selR lo n k && decide (enE P bw cw k + 1 = u)) (al P)) → V K sX9_mostLiveAmong 0 0 (fm (cO en c κ)) [some (.ref (c 2)), some (.int (zI lo)), some (.int (zI hi)), some (.int (zI n)), none, none] [] 10 := fun κ n hC hn hF hH => loop_10 _ κ n rfl hC hn hF hH
  refine V_aload_n dX9_mostLiveAmong_0 rfl ?_
  refine VO_getf (C0 := RX9) (T := TX9) (N := 10) (ci := 8) (fs := wkF c κ) 2 8 iwX9 (by decide) w114 (Or.inl rfl) rfl (at_wk) rfl dX9_mostLiveAmong_1 ?_
  refine V_iconst dX9_mostLiveAmong_4 ?_
  refine VO_callSB (As := [.ref (c 11), .int (zI 0)]) (i := 11) at_wk_change hK (k_fill en (c 11) 258 (κ 59) 0 (by decide)) mokJ7_fill_53178 w333 w334 ⟨Nat.le_of_ble_eq_true rfl, Nat.le_of_ble_eq_true rfl⟩ rfl (Nat.le_of_ble_eq_true rfl) ⟨Nat.le_of_ble_eq_true rfl, Nat.le_of_ble_eq_true rfl⟩ dX9_mostLiveAmong_5 (fun v w p_4 => ?_)
  obtain ⟨rfl, rfl⟩ := p_4
  refine ⟨_, rfl, ?_⟩
  rw [stw_wk_change _]
  show V K sX9_mostLiveAmong 0 0 (fm (cO en c (upW κ 59 (fillF 258 (κ 59) 0)))) [some (.ref (c 2)), some (.int (zI lo)), some (.int (zI hi)), none, none, none] [] 8
  refine V_iload_n dX9_mostLiveAmong_8 rfl ?_
  refine V_istore_n (L' := [some (.ref (c 2)), some (.int (zI lo)), some (.int (zI hi)), some (.int (zI lo)), none, none]) dX9_mostLiveAmong_9 (by decide) rfl ?_
  refine seg_10 (upW κ 59 (fillF 258 (κ 59) 0)) lo ?_ ?_ ?_ ?_
  · exact ((hC).upW (by first | decide | omega))
  · omega
  · exact ((hF).updW (by decide))
  · exact fun u a b => by
      rw [selR_0 hal.1, selR_0 hal.1]
      exact if_pos ⟨a, b⟩

/-! the law: lives, conflicts, the order of the steps -/
theorem cc_cell {P : St} (hM : MI P) {k : Int} (hk : 0 ≤ k) (hkn : k < al P) : inC P (k / pt P) (k % pt P / P 0 1) (k % pt P % P 0 1) ∧ cc P (k / pt P) (k % pt P / P 0 1) (k % pt P % P 0 1) = k := by
  have hc := cell_st hM hk hkn
  have hr := place_rc hM hc.2.2.1 hc.2.2.2.1
  refine ⟨⟨⟨hc.1, hc.2.1⟩, hr.1, hr.2.1, hr.2.2.1, hr.2.2.2.1⟩, ?_⟩
  have h1 : k % pt P / P 0 1 * P 0 1 + k % pt P % P 0 1 = k % pt P := by rw [Int.mul_comm]; exact hr.2.2.2.2.symm
  unfold cc
  rw [h1]
  exact cell_of hM hk hkn
theorem smv_bz (p : Int → Bool) : ∀ n, 0 ≤ n → smv (fun a => bz (p a)) n = ct p n := by
  refine int_ind ?_ (fun k hk ih => ?_)
  · rw [smv_0, ct_0 _ (by decide)]
  · rw [smv_s _ hk, ct_s _ hk, ih]
theorem smv_add (f g : Int → Int) : ∀ n, 0 ≤ n → smv (fun a => f a + g a) n = smv f n + smv g n := by
  refine int_ind ?_ (fun k hk ih => ?_)
  · rw [smv_0, smv_0, smv_0]; rfl
  · rw [smv_s _ hk, smv_s _ hk, smv_s _ hk, ih]; omega
theorem tri {g : Int → Int → Bool} (hs : ∀ a b, g a b = g b a) (hi : ∀ a, g a a = false) : ∀ n, 0 ≤ n → smv (fun a => ct (fun b => g a b) n) n = 2 * smv (fun a => ct (fun b => g b a) a) n := by
  refine int_ind ?_ (fun k hk ih => ?_)
  · rw [smv_0, smv_0]; rfl
  · rw [smv_s _ hk, smv_s _ hk]
    have e1 : smv (fun a => ct (fun b => g a b) (k + 1)) k = smv (fun a => ct (fun b => g a b) k + bz (g a k)) k := smv_congr _ hk (fun a _ _ => ct_s _ hk)
    have e2 := smv_add (fun a => ct (fun b => g a b) k) (fun a => bz (g a k)) k hk
    have e3 := smv_bz (fun a => g a k) k hk
    have e4 : ct (fun b => g k b) (k + 1) = ct (fun b => g b k) k := by
      rw [ct_s _ hk, hi k]
      rw [ct_congr (q := fun b => g b k) _ hk (fun j _ _ => hs k j)]
      show _ + 0 = _
      omega
    omega
theorem cpr_tri {P : St} (hM : MI P) {s : Int} : cpr P s / 2 = smv (fun a => ct (fun b => cf P (P 0 11) (P 0 12) (s * pt P + b) (s * pt P + a)) a) (pt P) := by
  have h := tri (g := fun a b => cf P (P 0 11) (P 0 12) (s * pt P + a) (s * pt P + b)) (fun a b => cf_sym _ _ _ _ _) (fun a => cf_self _ _ _ _) (pt P) (by have := hM.pts; omega)
  unfold cpr
  rw [h]
  omega
set_option maxRecDepth 100000 in
set_option maxHeartbeats 4000000 in
theorem q_areLives (en c b : Nat → Nat) (κ τ : St) (Y : vWd) (one : Int) (two : Int) (P : St) (hp : MI P ∧ LR P τ ∧ CWP P κ ∧ LT P τ ∧ LE P τ ∧ (0 ≤ one ∧ one ≤ 60000) ∧ (0 ≤ two ∧ two ≤ 60000)) : MC (EX en) yL_areLives tL_areLives [.ref (c 0), .ref (b 0), .ref (b 1), .ref (b 2), .ref (b 3), .ref (b 4), .int (zI one), .int (zI two)] (lW b τ (Y ++ fm (cO en c κ))) (fun v w => ∃ (κ2 : St), v = some (.int (zI (bz true))) ∧ w = (lW b τ (Y ++ fm (cO en c κ2))) ∧ (CWP P κ2)) := by
  refine MC.of (EX.stb en) [some (.ref (c 0)), some (.ref (b 0)), some (.ref (b 1)), some (.ref (b 2)), some (.ref (b 3)), some (.ref (b 4)), some (.int (zI one)), some (.int (zI two)), none, none, none, none, none, none, none, none, none, none, none] 11 rfl rfl rfl (by simp [Value.category]) (Nat.le_of_ble_eq_true rfl) (fun K hK hR => ?_)
  obtain ⟨hM, hL, hC, hp⟩ := hp
  have mR := hM.1
  have mC := hM.2.1
  have mN := hM.2.2.1
  have mp := hM.pts
  have ma := hM.als
  have mV := hM.2.2.2.1
  have mW := hM.2.2.2.2.1
  obtain ⟨hT, hE4, hone, htwo⟩ := hp
  have hsm := hL.small hM
  have hmxb : ∀ sel t, 0 ≤ t → 0 ≤ mxv (lvN P (P 0 11) (P 0 12) sel) t ∧ mxv (lvN P (P 0 11) (P 0 12) sel) t ≤ 256 := fun sel t ht => mxv_b (by decide) t ht (fun j _ _ => (lvN_b hM j).2)
  have hlvb : ∀ sel t, 0 ≤ lvN P (P 0 11) (P 0 12) sel t ∧ lvN P (P 0 11) (P 0 12) sel t ≤ 256 := fun sel t => lvN_b hM t
  have loop_637 : ∀ (n0 : Nat) (s : Int) (κ1 : St) (k1 : Nat) (n1 : Nat), (P 0 2 - s).toNat = n0 → (0 ≤ s ∧ s ≤ P 0 2) → (CWP P κ1) → (k1 ≤ 400 + 20 * s.toNat) → (n1 ≤ 2000 + 120 * s.toNat) → V K tL_areLives k1 n1 (lW b τ (Y ++ fm (cO en c κ1))) [some (.ref (c 0)), some (.ref (b 0)), some (.ref (b 1)), some (.ref (b 2)), some (.ref (b 3)), some (.ref (b 4)), some (.int (zI one)), some (.int (zI two)), some (.int (zI (pt P))), some (.int (zI (al P))), some (.int (zI 1)), none, none, none, some (.int (zI s)), none, none, none, none] [] 637 := by
    intro n0
    induction n0 using Nat.strongRecOn with
    | _ n0 ih_637 =>
    intro s κ1 k1 n1 hm_637 hs hC1 hk1 hn1
    have loop_653 : ∀ (n0 : Nat) (j : Int) (κ3 : St) (k3 : Nat) (n3 : Nat), (P 4 s - j).toNat = n0 → (s < P 0 2) → (0 ≤ j ∧ j ≤ P 4 s) → (CWP P κ3) → (k3 ≤ k1 + 2 * j.toNat) → (n3 ≤ n1 + 12 * j.toNat) → V K tL_areLives k3 n3 (lW b τ (Y ++ fm (cO en c κ3))) [some (.ref (c 0)), some (.ref (b 0)), some (.ref (b 1)), some (.ref (b 2)), some (.ref (b 3)), some (.ref (b 4)), some (.int (zI one)), some (.int (zI two)), some (.int (zI (pt P))), some (.int (zI (al P))), some (.int (zI 1)), none, none, none, some (.int (zI s)), some (.int (zI j)), none, none, none] [] 653 := by
      intro n0
      induction n0 using Nat.strongRecOn with
      | _ n0 ih_653 =>
      intro j κ3 k3 n3 hm_653 hsn hj hC3 hk3 hn3
      have h4 := rds_b hM hs.1 (show s < 4 by omega)
      have ha := hL.at hs.1 (show s < 4 by omega)
      refine V_iload dL_areLives_653 rfl ?_
      refine V_aload_n dL_areLives_655 rfl ?_
      refine V_iconst dL_areLives_656 ?_
      refine V_iload dL_areLives_657 rfl ?_
      refine V_iadd dL_areLives_659 ?_
      refine ll_1 ⟨by omega, by omega⟩ dL_areLives_660 ?_
      refine V_eqT (y := zI (P 4 s)) (congrArg zI ha.2.1) ?_
      refine V_icmp_ge (tgt := 704) dL_areLives_661 (by decide) ⟨⟨by omega, by omega⟩, ⟨by omega, by omega⟩⟩ (fun c_1 => ?_) (fun c_1 => ?_)
      · refine V_iload dL_areLives_704 rfl ?_
        refine V_if_eq (tgt := 736) dL_areLives_706 (by decide) ⟨by decide, by decide⟩ (fun h => absurd h (by decide)) (fun _ => ?_)
        refine V_aload_n dL_areLives_709 rfl ?_
        refine V_bipush dL_areLives_710 (by decide) ?_
        refine V_iload dL_areLives_712 rfl ?_
        refine V_aload_n dL_areLives_714 rfl ?_
        refine V_iconst dL_areLives_715 ?_
        refine V_iload dL_areLives_716 rfl ?_
        refine V_iadd dL_areLives_718 ?_
        refine ll_1 ⟨by omega, by omega⟩ dL_areLives_719 ?_
        refine V_eqT (y := zI (P 4 s)) (congrArg zI ha.2.1) ?_
        refine V_iconst dL_areLives_720 ?_
        refine V_iconst dL_areLives_721 ?_
        refine V_iconst dL_areLives_722 ?_
        refine V_callSBH (As := [.ref (c 0), .int (zI 14), .int (zI s), .int (zI (P 4 s)), .int (zI 0), .int (zI 0), .int (zI 0)]) (wr := (lW b τ Y)) (wc := fm (cO en c κ3)) rfl hK (d_14 en c κ3 s (P 4 s) 0 0 0 P ⟨hM, hC3, ⟨by omega, by omega⟩, ⟨by omega, by omega⟩⟩) mokL_does w507 w508 ⟨Nat.le_of_ble_eq_true rfl, Nat.le_of_ble_eq_true rfl⟩ rfl (Nat.le_of_ble_eq_true rfl) ⟨(by show k3 + 0 + 8 ≤ 1000; omega), (by show n3 + 0 + 50 ≤ 10000; omega)⟩ dL_areLives_723 (fun v w p_3 => ?_)
        obtain ⟨κ_4, rfl, rfl, q_5⟩ := p_3
        show V K tL_areLives (k3 + 8) (n3 + 50) (lW b τ (Y ++ fm (cO en c κ_4))) _ [.int (zI (dvl (-3000) 0 0 (sp_isReadInOrder P s (P 4 s))))] 726
        have e_8 : sp_isReadInOrder P s (P 4 s) = (1, 0, P) := gd_f (fun h => by have := h.2.2; omega)
        rw [e_8] at q_5
        refine V_eqT (y := zI (-3000)) (by rw [e_8]; rfl) ?_
        show V K tL_areLives (k3 + 8) (n3 + 50) (lW b τ (Y ++ fm (cO en c κ_4))) _ [.int (zI (-3000))] 726
        refine V_sipush dL_areLives_726 (by decide) ?_
        refine V_icmp_ne (tgt := 736) dL_areLives_729 (by decide) ⟨⟨by decide, by decide⟩, ⟨by decide, by decide⟩⟩ (fun h => absurd h (by decide)) (fun _ => ?_)
        refine V_iconst dL_areLives_732 ?_
        refine V_goto (tgt := 737) dL_areLives_733 (by decide) ?_
        refine V_istore (L' := [some (.ref (c 0)), some (.ref (b 0)), some (.ref (b 1)), some (.ref (b 2)), some (.ref (b 3)), some (.ref (b 4)), some (.int (zI one)), some (.int (zI two)), some (.int (zI (pt P))), some (.int (zI (al P))), some (.int (zI 1)), none, none, none, some (.int (zI s)), some (.int (zI j)), none, none, none]) dL_areLives_737 (by decide) rfl ?_
        refine V_iinc (L' := [some (.ref (c 0)), some (.ref (b 0)), some (.ref (b 1)), some (.ref (b 2)), some (.ref (b 3)), some (.ref (b 4)), some (.int (zI one)), some (.int (zI two)), some (.int (zI (pt P))), some (.int (zI (al P))), some (.int (zI 1)), none, none, none, some (.int (zI (s + 1))), some (.int (zI j)), none, none, none]) dL_areLives_739 (by decide) rfl rfl ?_
        refine V_goto (tgt := 637) dL_areLives_742 (by decide) ?_
        refine V_mask (L' := [some (.ref (c 0)), some (.ref (b 0)), some (.ref (b 1)), some (.ref (b 2)), some (.ref (b 3)), some (.ref (b 4)), some (.int (zI one)), some (.int (zI two)), some (.int (zI (pt P))), some (.int (zI (al P))), some (.int (zI 1)), none, none, none, some (.int (zI (s + 1))), none, none, none, none]) [true, true, true, true, true, true, true, true, true, true, true, false, false, false, true, false, false, false, false] rfl ?_
        refine ih_637 _ (by omega) (s + 1) κ_4 (k3 + 8) (n3 + 50) rfl ?_ ?_ ?_ ?_
        · omega
        · exact q_5
        · omega
        · omega
      · refine V_iload dL_areLives_664 rfl ?_
        refine V_if_eq (tgt := 704) dL_areLives_666 (by decide) ⟨by decide, by decide⟩ (fun h => absurd h (by decide)) (fun _ => ?_)
        refine V_aload_n dL_areLives_669 rfl ?_
        refine V_iload dL_areLives_670 rfl ?_
        refine V_iload dL_areLives_672 rfl ?_
        refine V_callVB (As := [.int (zI s), .int (zI j)]) (b := c 0) (ci := 9) (fs := cwF c κ3) (T := TX10) (N := 9) (lW_cw b τ Y en c κ3) rfl (wr := (lW b τ Y)) (wc := fm (cO en c κ3)) rfl hK (MC.env EX.en (r_isReadInOrder en c κ3 s j P ⟨hM, hC3, ⟨hs.1, hsn⟩, hj.1, by omega⟩)) mokX10_isReadInOrder w841 w842 w843 ⟨Nat.le_of_ble_eq_true rfl, Nat.le_of_ble_eq_true rfl⟩ rfl (Nat.le_of_ble_eq_true rfl) ⟨(by show k3 + 0 + 2 ≤ 1000; omega), (by show n3 + 0 + 12 ≤ 10000; omega)⟩ dL_areLives_674 (fun v w p_11 => ?_)
        obtain ⟨κ_12, rfl, rfl, q_13⟩ := p_11
        show V K tL_areLives (k3 + 2) (n3 + 12) (lW b τ (Y ++ fm (cO en c κ_12))) _ [.int (zI (bz (dcd (inO P (P 0 11) (P 0 12) s j))))] 677
        refine V_aload_n dL_areLives_677 rfl ?_
        refine V_aload_n dL_areLives_678 rfl ?_
        refine V_aload dL_areLives_679 rfl ?_
        refine V_iload dL_areLives_681 rfl ?_
        refine V_iload dL_areLives_683 rfl ?_
        refine V_callSF (As := [.ref (b 0), .ref (b 2), .ref (b 3), .int (zI s), .int (zI j)]) hK (q_isInOrder (EX.stb en) b τ (Y ++ fm (cO en c κ_12)) s j P ⟨hM, hL, hT, ⟨hs.1, hsn⟩, hj.1, by omega⟩) mokL_isInOrder w889 w890 ⟨Nat.le_of_ble_eq_true rfl, Nat.le_of_ble_eq_true rfl⟩ rfl (Nat.le_of_ble_eq_true rfl) ⟨(by show k3 + 2 + 0 ≤ 1000; omega), (by show n3 + 12 + 0 ≤ 10000; omega)⟩ dL_areLives_685 (fun v w p_14 => ?_)
        obtain ⟨rfl, rfl⟩ := p_14
        show V K tL_areLives (k3 + 2) (n3 + 12) (lW b τ (Y ++ fm (cO en c κ_12))) _ [.int (zI (bz (dcd (inO P (P 0 11) (P 0 12) s j)))), .int (zI (bz (dcd (inO P (P 0 11) (P 0 12) s j))))] 688
        refine V_icmp_ne (tgt := 695) dL_areLives_688 (by decide) ⟨bz_iR _, bz_iR _⟩ (fun c_15 => absurd (rfl) c_15) (fun _ => ?_)
        refine V_iconst dL_areLives_691 ?_
        refine V_goto (tgt := 696) dL_areLives_692 (by decide) ?_
        refine V_istore (L' := [some (.ref (c 0)), some (.ref (b 0)), some (.ref (b 1)), some (.ref (b 2)), some (.ref (b 3)), some (.ref (b 4)), some (.int (zI one)), some (.int (zI two)), some (.int (zI (pt P))), some (.int (zI (al P))), some (.int (zI 1)), none, none, none, some (.int (zI s)), some (.int (zI j)), none, none, none]) dL_areLives_696 (by decide) rfl ?_
        refine V_iinc (L' := [some (.ref (c 0)), some (.ref (b 0)), some (.ref (b 1)), some (.ref (b 2)), some (.ref (b 3)), some (.ref (b 4)), some (.int (zI one)), some (.int (zI two)), some (.int (zI (pt P))), some (.int (zI (al P))), some (.int (zI 1)), none, none, none, some (.int (zI s)), some (.int (zI (j + 1))), none, none, none]) dL_areLives_698 (by decide) rfl rfl ?_
        refine V_goto (tgt := 653) dL_areLives_701 (by decide) ?_
        refine ih_653 _ (by omega) (j + 1) κ_12 (k3 + 2) (n3 + 12) rfl ?_ ?_ ?_ ?_ ?_
        · omega
        · omega
        · exact q_13
        · omega
        · omega
    have seg_653 : ∀ (j : Int) (κ3 : St) (k3 : Nat) (n3 : Nat), (s < P 0 2) → (0 ≤ j ∧ j ≤ P 4 s) → (CWP P κ3) → (k3 ≤ k1 + 2 * j.toNat) → (n3 ≤ n1 + 12 * j.toNat) → V K tL_areLives k3 n3 (lW b τ (Y ++ fm (cO en c κ3))) [some (.ref (c 0)), some (.ref (b 0)), some (.ref (b 1)), some (.ref (b 2)), some (.ref (b 3)), some (.ref (b 4)), some (.int (zI one)), some (.int (zI two)), some (.int (zI (pt P))), some (.int (zI (al P))), some (.int (zI 1)), none, none, none, some (.int (zI s)), some (.int (zI j)), none, none, none] [] 653 := fun j κ3 k3 n3 hsn hj hC3 hk3 hn3 => loop_653 _ j κ3 k3 n3 rfl hsn hj hC3 hk3 hn3
    refine V_iload dL_areLives_637 rfl ?_
    refine V_aload_n dL_areLives_639 rfl ?_
    refine V_iconst dL_areLives_640 ?_
    refine ll_0 ⟨by omega, by omega⟩ dL_areLives_641 ?_
    refine V_eqT (y := zI (P 0 2)) (congrArg zI (LR.g2 hL)) ?_
    refine V_icmp_ge (tgt := 745) dL_areLives_642 (by decide) ⟨⟨by omega, by omega⟩, ⟨by omega, by omega⟩⟩ (fun c_16 => ?_) (fun c_16 => ?_)
    · refine V_iload dL_areLives_745 rfl ?_
      show V K tL_areLives k1 n1 _ _ [.int (zI (bz true))] 747
      refine V_zret hR rfl (by show k1 + 0 ≤ 1000; omega) (by show n1 + 0 ≤ 10000; omega) dL_areLives_747 ?_
      exact ⟨_, rfl, rfl, hC1⟩
    · refine V_iload dL_areLives_645 rfl ?_
      refine V_if_eq (tgt := 745) dL_areLives_647 (by decide) ⟨by decide, by decide⟩ (fun h => absurd h (by decide)) (fun _ => ?_)
      refine V_iconst dL_areLives_650 ?_
      refine V_istore (L' := [some (.ref (c 0)), some (.ref (b 0)), some (.ref (b 1)), some (.ref (b 2)), some (.ref (b 3)), some (.ref (b 4)), some (.int (zI one)), some (.int (zI two)), some (.int (zI (pt P))), some (.int (zI (al P))), some (.int (zI 1)), none, none, none, some (.int (zI s)), some (.int (zI 0)), none, none, none]) dL_areLives_651 (by decide) rfl ?_
      refine seg_653 0 κ1 k1 n1 ?_ ?_ ?_ ?_ ?_
      · omega
      · exact ⟨by omega, (rds_b hM hs.1 (by omega)).1⟩
      · exact hC1
      · omega
      · omega
  have seg_637 : ∀ (s : Int) (κ1 : St) (k1 : Nat) (n1 : Nat), (0 ≤ s ∧ s ≤ P 0 2) → (CWP P κ1) → (k1 ≤ 400 + 20 * s.toNat) → (n1 ≤ 2000 + 120 * s.toNat) → V K tL_areLives k1 n1 (lW b τ (Y ++ fm (cO en c κ1))) [some (.ref (c 0)), some (.ref (b 0)), some (.ref (b 1)), some (.ref (b 2)), some (.ref (b 3)), some (.ref (b 4)), some (.int (zI one)), some (.int (zI two)), some (.int (zI (pt P))), some (.int (zI (al P))), some (.int (zI 1)), none, none, none, some (.int (zI s)), none, none, none, none] [] 637 := fun s κ1 k1 n1 hs hC1 hk1 hn1 => loop_637 _ s κ1 k1 n1 rfl hs hC1 hk1 hn1
  have loop_505 : ∀ (n0 : Nat) (k : Int) (κ1 : St) (k1 : Nat) (n1 : Nat), (al P + 3 - k).toNat = n0 → (0 ≤ k ∧ k ≤ al P + 2) → (CWP P κ1) → (k1 ≤ 200 + 2 * k.toNat) → (n1 ≤ 1100 + 12 * k.toNat) → V K tL_areLives k1 n1 (lW b τ (Y ++ fm (cO en c κ1))) [some (.ref (c 0)), some (.ref (b 0)), some (.ref (b 1)), some (.ref (b 2)), some (.ref (b 3)), some (.ref (b 4)), some (.int (zI one)), some (.int (zI two)), some (.int (zI (pt P))), some (.int (zI (al P))), some (.int (zI 1)), none, none, none, some (.int (zI k)), none, none, none, none] [] 505 := by
    intro n0
    induction n0 using Nat.strongRecOn with
    | _ n0 ih_505 =>
    intro k κ1 k1 n1 hm_505 hk hC1 hk1 hn1
    refine V_iload dL_areLives_505 rfl ?_
    refine V_iload dL_areLives_507 rfl ?_
    refine V_icmp_ge (tgt := 634) dL_areLives_509 (by decide) ⟨⟨by omega, by omega⟩, ⟨by omega, by omega⟩⟩ (fun c_18 => ?_) (fun c_18 => ?_)
    · refine V_iconst dL_areLives_634 ?_
      refine V_istore (L' := [some (.ref (c 0)), some (.ref (b 0)), some (.ref (b 1)), some (.ref (b 2)), some (.ref (b 3)), some (.ref (b 4)), some (.int (zI one)), some (.int (zI two)), some (.int (zI (pt P))), some (.int (zI (al P))), some (.int (zI 1)), none, none, none, some (.int (zI 0)), none, none, none, none]) dL_areLives_635 (by decide) rfl ?_
      refine seg_637 0 κ1 k1 n1 ?_ ?_ ?_ ?_
      · omega
      · exact hC1
      · omega
      · omega
    · refine V_iload dL_areLives_512 rfl ?_
      refine V_if_eq (tgt := 634) dL_areLives_514 (by decide) ⟨by decide, by decide⟩ (fun h => absurd h (by decide)) (fun _ => ?_)
      have hkn : k < al P := by omega
      have hcc := cc_cell hM hk.1 hkn
      have kb := bt_b (P := P) (bw := P 0 11) (cw := P 0 12) hk.1 hkn
      have ke := enE_b (P := P) (bw := P 0 11) (cw := P 0 12) hk.1 hkn
      have hcs := cell_st hM hk.1 hkn
      have hrc := place_rc hM hcs.2.2.1 hcs.2.2.2.1
      refine V_aload_n dL_areLives_517 rfl ?_
      refine V_iload dL_areLives_518 rfl ?_
      refine V_iload dL_areLives_520 rfl ?_
      refine V_idiv dL_areLives_522 ⟨⟨by omega, by omega⟩, ⟨by omega, by omega⟩, by omega, by omega⟩ ?_
      refine V_iload dL_areLives_523 rfl ?_
      refine V_iload dL_areLives_525 rfl ?_
      refine V_iremN dL_areLives_527 ⟨⟨by omega, by omega⟩, ⟨by omega, by omega⟩, by omega, by omega⟩ ?_
      refine V_aload_n dL_areLives_528 rfl ?_
      refine V_iconst dL_areLives_529 ?_
      refine ll_0 ⟨by omega, by omega⟩ dL_areLives_530 ?_
      refine V_eqT (y := zI (P 0 1)) (congrArg zI (LR.g1 hL)) ?_
      refine V_idiv dL_areLives_531 ⟨⟨by omega, by omega⟩, ⟨by omega, by omega⟩, by omega, by omega⟩ ?_
      refine V_iload dL_areLives_532 rfl ?_
      refine V_iload dL_areLives_534 rfl ?_
      refine V_iremN dL_areLives_536 ⟨⟨by omega, by omega⟩, ⟨by omega, by omega⟩, by omega, by omega⟩ ?_
      refine V_aload_n dL_areLives_537 rfl ?_
      refine V_iconst dL_areLives_538 ?_
      refine ll_0 ⟨by omega, by omega⟩ dL_areLives_539 ?_
      refine V_eqT (y := zI (P 0 1)) (congrArg zI (LR.g1 hL)) ?_
      refine V_iremN dL_areLives_540 ⟨⟨by omega, by omega⟩, ⟨by omega, by omega⟩, by omega, by omega⟩ ?_
      refine V_callVB (As := [.int (zI (k / (pt P))), .int (zI ((k % (pt P)) / (P 0 1))), .int (zI ((k % (pt P)) % (P 0 1)))]) (b := c 0) (ci := 9) (fs := cwF c κ1) (T := TX10) (N := 9) (lW_cw b τ Y en c κ1) rfl (wr := (lW b τ Y)) (wc := fm (cO en c κ1)) rfl hK (MC.env EX.en (r_stepOf en c κ1 (k / (pt P)) ((k % (pt P)) / (P 0 1)) ((k % (pt P)) % (P 0 1)) P ⟨hM, hC1, hcc.1⟩)) mokX10_stepOf w826 w827 w828 ⟨Nat.le_of_ble_eq_true rfl, Nat.le_of_ble_eq_true rfl⟩ rfl (Nat.le_of_ble_eq_true rfl) ⟨(by show k1 + 0 + 2 ≤ 1000; omega), (by show n1 + 0 + 12 ≤ 10000; omega)⟩ dL_areLives_541 (fun v w p_20 => ?_)
      obtain ⟨κ_21, rfl, rfl, q_22⟩ := p_20
      show V K tL_areLives (k1 + 2) (n1 + 12) (lW b τ (Y ++ fm (cO en c κ_21))) _ [.int (zI (bt P (P 0 11) (P 0 12) (cc P (k / (pt P)) ((k % (pt P)) / (P 0 1)) ((k % (pt P)) % (P 0 1)))))] 544
      refine V_eqT (y := zI (bt P (P 0 11) (P 0 12) k)) (by rw [hcc.2]) ?_
      refine V_aload dL_areLives_544 rfl ?_
      refine V_iload dL_areLives_546 rfl ?_
      refine ll_3 ⟨by omega, by omega⟩ dL_areLives_548 ?_
      refine V_eqT (y := zI (bt P (P 0 11) (P 0 12) k)) (congrArg zI (hT k hk.1 hkn)) ?_
      refine V_icmp_ne (tgt := 625) dL_areLives_549 (by decide) ⟨⟨by omega, by omega⟩, ⟨by omega, by omega⟩⟩ (fun c_23 => absurd (rfl) c_23) (fun _ => ?_)
      refine V_aload_n dL_areLives_552 rfl ?_
      refine V_aload dL_areLives_553 rfl ?_
      refine V_iload dL_areLives_555 rfl ?_
      refine ll_3 ⟨by omega, by omega⟩ dL_areLives_557 ?_
      refine V_eqT (y := zI (bt P (P 0 11) (P 0 12) k)) (congrArg zI (hT k hk.1 hkn)) ?_
      refine V_callVB (As := [.int (zI (bt P (P 0 11) (P 0 12) k))]) (b := c 0) (ci := 9) (fs := cwF c κ_21) (T := TX10) (N := 9) (lW_cw b τ Y en c κ_21) rfl (wr := (lW b τ Y)) (wc := fm (cO en c κ_21)) rfl hK (MC.env EX.en (r_statementAt en c κ_21 (bt P (P 0 11) (P 0 12) k) P ⟨hM, q_22, kb⟩)) mokX10_statementAt w913 w914 w915 ⟨Nat.le_of_ble_eq_true rfl, Nat.le_of_ble_eq_true rfl⟩ rfl (Nat.le_of_ble_eq_true rfl) ⟨(by show k1 + 2 + 1 ≤ 1000; omega), (by show n1 + 12 + 6 ≤ 10000; omega)⟩ dL_areLives_558 (fun v w p_24 => ?_)
      obtain ⟨κ_25, rfl, rfl, q_26⟩ := p_24
      show V K tL_areLives (k1 + 3) (n1 + 18) (lW b τ (Y ++ fm (cO en c κ_25))) _ [.int (zI (ac P (P 0 11) (P 0 12) (bt P (P 0 11) (P 0 12) k) / pt P))] 561
      refine V_eqT (y := zI (k / pt P)) (by rw [ac_bt hk.1 hkn]) ?_
      refine V_iload dL_areLives_561 rfl ?_
      refine V_iload dL_areLives_563 rfl ?_
      refine V_idiv dL_areLives_565 ⟨⟨by omega, by omega⟩, ⟨by omega, by omega⟩, by omega, by omega⟩ ?_
      refine V_icmp_ne (tgt := 625) dL_areLives_566 (by decide) ⟨⟨by omega, by omega⟩, ⟨by omega, by omega⟩⟩ (fun c_27 => absurd (rfl) c_27) (fun _ => ?_)
      refine V_aload_n dL_areLives_569 rfl ?_
      refine V_aload dL_areLives_570 rfl ?_
      refine V_iload dL_areLives_572 rfl ?_
      refine ll_3 ⟨by omega, by omega⟩ dL_areLives_574 ?_
      refine V_eqT (y := zI (bt P (P 0 11) (P 0 12) k)) (congrArg zI (hT k hk.1 hkn)) ?_
      refine V_callVB (As := [.int (zI (bt P (P 0 11) (P 0 12) k))]) (b := c 0) (ci := 9) (fs := cwF c κ_25) (T := TX10) (N := 9) (lW_cw b τ Y en c κ_25) rfl (wr := (lW b τ Y)) (wc := fm (cO en c κ_25)) rfl hK (MC.env EX.en (r_pointAt en c κ_25 (bt P (P 0 11) (P 0 12) k) P ⟨hM, q_26, kb⟩)) mokX10_pointAt w917 w918 w919 ⟨Nat.le_of_ble_eq_true rfl, Nat.le_of_ble_eq_true rfl⟩ rfl (Nat.le_of_ble_eq_true rfl) ⟨(by show k1 + 3 + 1 ≤ 1000; omega), (by show n1 + 18 + 6 ≤ 10000; omega)⟩ dL_areLives_575 (fun v w p_28 => ?_)
      obtain ⟨κ_29, rfl, rfl, q_30⟩ := p_28
      show V K tL_areLives (k1 + 4) (n1 + 24) (lW b τ (Y ++ fm (cO en c κ_29))) _ [.int (zI (ac P (P 0 11) (P 0 12) (bt P (P 0 11) (P 0 12) k) % pt P))] 578
      refine V_eqT (y := zI (k % pt P)) (by rw [ac_bt hk.1 hkn]) ?_
      refine V_iload dL_areLives_578 rfl ?_
      refine V_iload dL_areLives_580 rfl ?_
      refine V_iremN dL_areLives_582 ⟨⟨by omega, by omega⟩, ⟨by omega, by omega⟩, by omega, by omega⟩ ?_
      refine V_icmp_ne (tgt := 625) dL_areLives_583 (by decide) ⟨⟨by omega, by omega⟩, ⟨by omega, by omega⟩⟩ (fun c_31 => absurd (rfl) c_31) (fun _ => ?_)
      refine V_aload_n dL_areLives_586 rfl ?_
      refine V_iload dL_areLives_587 rfl ?_
      refine V_iload dL_areLives_589 rfl ?_
      refine V_idiv dL_areLives_591 ⟨⟨by omega, by omega⟩, ⟨by omega, by omega⟩, by omega, by omega⟩ ?_
      refine V_iload dL_areLives_592 rfl ?_
      refine V_iload dL_areLives_594 rfl ?_
      refine V_iremN dL_areLives_596 ⟨⟨by omega, by omega⟩, ⟨by omega, by omega⟩, by omega, by omega⟩ ?_
      refine V_aload_n dL_areLives_597 rfl ?_
      refine V_iconst dL_areLives_598 ?_
      refine ll_0 ⟨by omega, by omega⟩ dL_areLives_599 ?_
      refine V_eqT (y := zI (P 0 1)) (congrArg zI (LR.g1 hL)) ?_
      refine V_idiv dL_areLives_600 ⟨⟨by omega, by omega⟩, ⟨by omega, by omega⟩, by omega, by omega⟩ ?_
      refine V_iload dL_areLives_601 rfl ?_
      refine V_iload dL_areLives_603 rfl ?_
      refine V_iremN dL_areLives_605 ⟨⟨by omega, by omega⟩, ⟨by omega, by omega⟩, by omega, by omega⟩ ?_
      refine V_aload_n dL_areLives_606 rfl ?_
      refine V_iconst dL_areLives_607 ?_
      refine ll_0 ⟨by omega, by omega⟩ dL_areLives_608 ?_
      refine V_eqT (y := zI (P 0 1)) (congrArg zI (LR.g1 hL)) ?_
      refine V_iremN dL_areLives_609 ⟨⟨by omega, by omega⟩, ⟨by omega, by omega⟩, by omega, by omega⟩ ?_
      refine V_callVB (As := [.int (zI (k / (pt P))), .int (zI ((k % (pt P)) / (P 0 1))), .int (zI ((k % (pt P)) % (P 0 1)))]) (b := c 0) (ci := 9) (fs := cwF c κ_29) (T := TX10) (N := 9) (lW_cw b τ Y en c κ_29) rfl (wr := (lW b τ Y)) (wc := fm (cO en c κ_29)) rfl hK (MC.env EX.en (r_endOf en c κ_29 (k / (pt P)) ((k % (pt P)) / (P 0 1)) ((k % (pt P)) % (P 0 1)) P ⟨hM, q_30, hcc.1⟩)) mokX10_endOf w921 w922 w923 ⟨Nat.le_of_ble_eq_true rfl, Nat.le_of_ble_eq_true rfl⟩ rfl (Nat.le_of_ble_eq_true rfl) ⟨(by show k1 + 4 + 2 ≤ 1000; omega), (by show n1 + 24 + 12 ≤ 10000; omega)⟩ dL_areLives_610 (fun v w p_32 => ?_)
      obtain ⟨κ_33, rfl, rfl, q_34⟩ := p_32
      show V K tL_areLives (k1 + 6) (n1 + 36) (lW b τ (Y ++ fm (cO en c κ_33))) _ [.int (zI (enE P (P 0 11) (P 0 12) (cc P (k / (pt P)) ((k % (pt P)) / (P 0 1)) ((k % (pt P)) % (P 0 1)))))] 613
      refine V_eqT (y := zI (enE P (P 0 11) (P 0 12) k)) (by rw [hcc.2]) ?_
      refine V_aload dL_areLives_613 rfl ?_
      refine V_iload dL_areLives_615 rfl ?_
      refine ll_4 ⟨by omega, by omega⟩ dL_areLives_617 ?_
      refine V_eqT (y := zI (enE P (P 0 11) (P 0 12) k)) (congrArg zI (hE4 k hk.1 hkn)) ?_
      refine V_icmp_ne (tgt := 625) dL_areLives_618 (by decide) ⟨⟨by omega, by omega⟩, ⟨by omega, by omega⟩⟩ (fun c_35 => absurd (rfl) c_35) (fun _ => ?_)
      refine V_iconst dL_areLives_621 ?_
      refine V_goto (tgt := 626) dL_areLives_622 (by decide) ?_
      refine V_istore (L' := [some (.ref (c 0)), some (.ref (b 0)), some (.ref (b 1)), some (.ref (b 2)), some (.ref (b 3)), some (.ref (b 4)), some (.int (zI one)), some (.int (zI two)), some (.int (zI (pt P))), some (.int (zI (al P))), some (.int (zI 1)), none, none, none, some (.int (zI k)), none, none, none, none]) dL_areLives_626 (by decide) rfl ?_
      refine V_iinc (L' := [some (.ref (c 0)), some (.ref (b 0)), some (.ref (b 1)), some (.ref (b 2)), some (.ref (b 3)), some (.ref (b 4)), some (.int (zI one)), some (.int (zI two)), some (.int (zI (pt P))), some (.int (zI (al P))), some (.int (zI 1)), none, none, none, some (.int (zI (k + 3))), none, none, none, none]) dL_areLives_628 (by decide) rfl rfl ?_
      refine V_goto (tgt := 505) dL_areLives_631 (by decide) ?_
      refine ih_505 _ (by omega) (k + 3) κ_33 (k1 + 6) (n1 + 36) rfl ?_ ?_ ?_ ?_
      · omega
      · exact q_34
      · omega
      · omega
  have seg_505 : ∀ (k : Int) (κ1 : St) (k1 : Nat) (n1 : Nat), (0 ≤ k ∧ k ≤ al P + 2) → (CWP P κ1) → (k1 ≤ 200 + 2 * k.toNat) → (n1 ≤ 1100 + 12 * k.toNat) → V K tL_areLives k1 n1 (lW b τ (Y ++ fm (cO en c κ1))) [some (.ref (c 0)), some (.ref (b 0)), some (.ref (b 1)), some (.ref (b 2)), some (.ref (b 3)), some (.ref (b 4)), some (.int (zI one)), some (.int (zI two)), some (.int (zI (pt P))), some (.int (zI (al P))), some (.int (zI 1)), none, none, none, some (.int (zI k)), none, none, none, none] [] 505 := fun k κ1 k1 n1 hk hC1 hk1 hn1 => loop_505 _ k κ1 k1 n1 rfl hk hC1 hk1 hn1
  have loop_310 : ∀ (n0 : Nat) (s : Int) (cl : Int) (qe : Nat) (Ef : Int → Int) (κ1 : St) (k1 : Nat) (n1 : Nat), (P 0 2 - s).toNat = n0 → (0 ≤ s ∧ s ≤ P 0 2) → ((al P = 0 ∧ cl = 0) ∨ (0 ≤ cl ∧ cl < al P)) → (∀ s, 0 ≤ s → s < 4 → Ef s = mxv (lvN P (P 0 11) (P 0 12) (selS P s)) (al P)) → (CWP P κ1) → (k1 ≤ 160 + 5 * s.toNat) → (n1 ≤ 900 + 30 * s.toNat) → V K tL_areLives k1 n1 (lW b τ ((qe, iE 0 4 Ef) :: (Y ++ fm (cO en c κ1)))) [some (.ref (c 0)), some (.ref (b 0)), some (.ref (b 1)), some (.ref (b 2)), some (.ref (b 3)), some (.ref (b 4)), some (.int (zI one)), some (.int (zI two)), some (.int (zI (pt P))), some (.int (zI (al P))), some (.int (zI 1)), none, some (.ref qe), some (.int (zI cl)), some (.int (zI s)), none, none, none, none] [] 310 := by
    intro n0
    induction n0 using Nat.strongRecOn with
    | _ n0 ih_310 =>
    intro s cl qe Ef κ1 k1 n1 hm_310 hs hcl hEf hC1 hk1 hn1
    have loop_332 : ∀ (n0 : Nat) (k : Int) (wi : Int) (pr : Int), (pt P - k).toNat = n0 → (s < P 0 2) → (0 ≤ k ∧ k ≤ pt P) → (wi = ct (fun p => cf P (P 0 11) (P 0 12) cl (s * pt P + p)) k) → (pr = smv (fun a => ct (fun b => cf P (P 0 11) (P 0 12) (s * pt P + b) (s * pt P + a)) a) k) → V K tL_areLives k1 n1 (lW b τ ((qe, iE 0 4 Ef) :: (Y ++ fm (cO en c κ1)))) [some (.ref (c 0)), some (.ref (b 0)), some (.ref (b 1)), some (.ref (b 2)), some (.ref (b 3)), some (.ref (b 4)), some (.int (zI one)), some (.int (zI two)), some (.int (zI (pt P))), some (.int (zI (al P))), some (.int (zI 1)), none, some (.ref qe), some (.int (zI cl)), some (.int (zI s)), some (.int (zI wi)), some (.int (zI pr)), some (.int (zI k)), none] [] 332 := by
      intro n0
      induction n0 using Nat.strongRecOn with
      | _ n0 ih_332 =>
      intro k wi pr hm_332 hsn hk hwi hpr
      have hal1 : pt P ≤ al P := al_pt hM (by omega)
      have hcl2 : 0 ≤ cl ∧ cl < al P := by omega
      have seg_366 : ∀ (y : Int), (k < pt P) → (y = bz (cf P (P 0 11) (P 0 12) cl (s * pt P + k))) → V K tL_areLives k1 n1 (lW b τ ((qe, iE 0 4 Ef) :: (Y ++ fm (cO en c κ1)))) [some (.ref (c 0)), some (.ref (b 0)), some (.ref (b 1)), some (.ref (b 2)), some (.ref (b 3)), some (.ref (b 4)), some (.int (zI one)), some (.int (zI two)), some (.int (zI (pt P))), some (.int (zI (al P))), some (.int (zI 1)), none, some (.ref qe), some (.int (zI cl)), some (.int (zI s)), none, some (.int (zI pr)), some (.int (zI k)), none] [.int (zI y), .int (zI wi)] 366 := by
        intro y hkn hy
        have hck := comp_eq hM hs.1 hsn hk.1 hkn
        have loop_372 : ∀ (n0 : Nat) (j : Int) (p2 : Int), (k - j).toNat = n0 → (0 ≤ j ∧ j ≤ k) → (p2 = pr + ct (fun b => cf P (P 0 11) (P 0 12) (s * pt P + b) (s * pt P + k)) j) → V K tL_areLives k1 n1 (lW b τ ((qe, iE 0 4 Ef) :: (Y ++ fm (cO en c κ1)))) [some (.ref (c 0)), some (.ref (b 0)), some (.ref (b 1)), some (.ref (b 2)), some (.ref (b 3)), some (.ref (b 4)), some (.int (zI one)), some (.int (zI two)), some (.int (zI (pt P))), some (.int (zI (al P))), some (.int (zI 1)), none, some (.ref qe), some (.int (zI cl)), some (.int (zI s)), some (.int (zI (wi + y))), some (.int (zI p2)), some (.int (zI k)), some (.int (zI j))] [] 372 := by
          intro n0
          induction n0 using Nat.strongRecOn with
          | _ n0 ih_372 =>
          intro j p2 hm_372 hj hp2
          have seg_412 : ∀ (y2 : Int), (j < k) → (y2 = bz (cf P (P 0 11) (P 0 12) (s * pt P + j) (s * pt P + k))) → V K tL_areLives k1 n1 (lW b τ ((qe, iE 0 4 Ef) :: (Y ++ fm (cO en c κ1)))) [some (.ref (c 0)), some (.ref (b 0)), some (.ref (b 1)), some (.ref (b 2)), some (.ref (b 3)), some (.ref (b 4)), some (.int (zI one)), some (.int (zI two)), some (.int (zI (pt P))), some (.int (zI (al P))), some (.int (zI 1)), none, some (.ref qe), some (.int (zI cl)), some (.int (zI s)), some (.int (zI (wi + y))), none, some (.int (zI k)), some (.int (zI j))] [.int (zI y2), .int (zI p2)] 412 := by
            intro y2 hjk hy2
            refine V_iadd dL_areLives_412 ?_
            refine V_istore (L' := [some (.ref (c 0)), some (.ref (b 0)), some (.ref (b 1)), some (.ref (b 2)), some (.ref (b 3)), some (.ref (b 4)), some (.int (zI one)), some (.int (zI two)), some (.int (zI (pt P))), some (.int (zI (al P))), some (.int (zI 1)), none, some (.ref qe), some (.int (zI cl)), some (.int (zI s)), some (.int (zI (wi + y))), some (.int (zI (p2 + y2))), some (.int (zI k)), some (.int (zI j))]) dL_areLives_413 (by decide) rfl ?_
            refine V_iinc (L' := [some (.ref (c 0)), some (.ref (b 0)), some (.ref (b 1)), some (.ref (b 2)), some (.ref (b 3)), some (.ref (b 4)), some (.int (zI one)), some (.int (zI two)), some (.int (zI (pt P))), some (.int (zI (al P))), some (.int (zI 1)), none, some (.ref qe), some (.int (zI cl)), some (.int (zI s)), some (.int (zI (wi + y))), some (.int (zI (p2 + y2))), some (.int (zI k)), some (.int (zI (j + 1)))]) dL_areLives_415 (by decide) rfl rfl ?_
            refine V_goto (tgt := 372) dL_areLives_418 (by decide) ?_
            refine ih_372 _ (by omega) (j + 1) (p2 + y2) rfl ?_ ?_
            · omega
            · rw [ct_s _ hj.1, hp2, hy2]; omega
          refine V_iload dL_areLives_372 rfl ?_
          refine V_iload dL_areLives_374 rfl ?_
          refine V_icmp_ge (tgt := 421) dL_areLives_376 (by decide) ⟨⟨by omega, by omega⟩, ⟨by omega, by omega⟩⟩ (fun c_36 => ?_) (fun c_36 => ?_)
          · refine V_iinc (L' := [some (.ref (c 0)), some (.ref (b 0)), some (.ref (b 1)), some (.ref (b 2)), some (.ref (b 3)), some (.ref (b 4)), some (.int (zI one)), some (.int (zI two)), some (.int (zI (pt P))), some (.int (zI (al P))), some (.int (zI 1)), none, some (.ref qe), some (.int (zI cl)), some (.int (zI s)), some (.int (zI (wi + y))), some (.int (zI p2)), some (.int (zI (k + 1))), some (.int (zI j))]) dL_areLives_421 (by decide) rfl rfl ?_
            refine V_goto (tgt := 332) dL_areLives_424 (by decide) ?_
            refine V_mask (L' := [some (.ref (c 0)), some (.ref (b 0)), some (.ref (b 1)), some (.ref (b 2)), some (.ref (b 3)), some (.ref (b 4)), some (.int (zI one)), some (.int (zI two)), some (.int (zI (pt P))), some (.int (zI (al P))), some (.int (zI 1)), none, some (.ref qe), some (.int (zI cl)), some (.int (zI s)), some (.int (zI (wi + y))), some (.int (zI p2)), some (.int (zI (k + 1))), none]) [true, true, true, true, true, true, true, true, true, true, true, false, true, true, true, true, true, true, false] rfl ?_
            refine ih_332 _ (by omega) (k + 1) (wi + y) p2 rfl ?_ ?_ ?_ ?_
            · omega
            · omega
            · rw [ct_s _ hk.1, ← hwi, hy]
            · rw [smv_s _ hk.1, ← hpr, hp2, show j = k by omega]
          · have hcj := comp_eq hM hs.1 hsn hj.1 (show j < pt P by omega)
            refine V_iload dL_areLives_379 rfl ?_
            refine V_aload dL_areLives_381 rfl ?_
            refine V_aload dL_areLives_383 rfl ?_
            refine V_iload dL_areLives_385 rfl ?_
            refine V_iload dL_areLives_387 rfl ?_
            refine V_imul dL_areLives_389 ?_
            refine V_iload dL_areLives_390 rfl ?_
            refine V_iadd dL_areLives_392 ?_
            refine V_iload dL_areLives_393 rfl ?_
            refine V_iload dL_areLives_395 rfl ?_
            refine V_imul dL_areLives_397 ?_
            refine V_iload dL_areLives_398 rfl ?_
            refine V_iadd dL_areLives_400 ?_
            refine V_callSF (As := [.ref (b 3), .ref (b 4), .int (zI ((s * (pt P)) + j)), .int (zI ((s * (pt P)) + k))]) hK (q_inConflict (EX.stb en) b τ ((qe, iE 0 4 Ef) :: (Y ++ fm (cO en c κ1))) ((s * (pt P)) + j) ((s * (pt P)) + k) P ⟨hM, hL, hT, hE4, hcj.1, hck.1⟩) mokL_inConflict w892 w893 ⟨Nat.le_of_ble_eq_true rfl, Nat.le_of_ble_eq_true rfl⟩ rfl (Nat.le_of_ble_eq_true rfl) ⟨(by show k1 + 0 + 0 ≤ 1000; omega), (by show n1 + 0 + 0 ≤ 10000; omega)⟩ dL_areLives_401 (fun v w p_37 => ?_)
            obtain ⟨rfl, rfl⟩ := p_37
            show V K tL_areLives k1 n1 (lW b τ ((qe, iE 0 4 Ef) :: (Y ++ fm (cO en c κ1)))) _ [.int (zI (bz (cf P (P 0 11) (P 0 12) ((s * (pt P)) + j) ((s * (pt P)) + k)))), .int (zI p2)] 404
            refine V_ifb_eq (tgt := 411) dL_areLives_404 (by decide) (fun c_38 => ?_) (fun c_38 => ?_)
            · refine V_iconst dL_areLives_411 ?_
              refine V_mask (L' := [some (.ref (c 0)), some (.ref (b 0)), some (.ref (b 1)), some (.ref (b 2)), some (.ref (b 3)), some (.ref (b 4)), some (.int (zI one)), some (.int (zI two)), some (.int (zI (pt P))), some (.int (zI (al P))), some (.int (zI 1)), none, some (.ref qe), some (.int (zI cl)), some (.int (zI s)), some (.int (zI (wi + y))), none, some (.int (zI k)), some (.int (zI j))]) [true, true, true, true, true, true, true, true, true, true, true, false, true, true, true, true, false, true, true] rfl ?_
              refine seg_412 0 ?_ ?_
              · omega
              · rw [c_38]; rfl
            · refine V_iconst dL_areLives_407 ?_
              refine V_goto (tgt := 412) dL_areLives_408 (by decide) ?_
              refine V_mask (L' := [some (.ref (c 0)), some (.ref (b 0)), some (.ref (b 1)), some (.ref (b 2)), some (.ref (b 3)), some (.ref (b 4)), some (.int (zI one)), some (.int (zI two)), some (.int (zI (pt P))), some (.int (zI (al P))), some (.int (zI 1)), none, some (.ref qe), some (.int (zI cl)), some (.int (zI s)), some (.int (zI (wi + y))), none, some (.int (zI k)), some (.int (zI j))]) [true, true, true, true, true, true, true, true, true, true, true, false, true, true, true, true, false, true, true] rfl ?_
              refine seg_412 1 ?_ ?_
              · omega
              · rw [c_38]; rfl
        have seg_372 : ∀ (j : Int) (p2 : Int), (0 ≤ j ∧ j ≤ k) → (p2 = pr + ct (fun b => cf P (P 0 11) (P 0 12) (s * pt P + b) (s * pt P + k)) j) → V K tL_areLives k1 n1 (lW b τ ((qe, iE 0 4 Ef) :: (Y ++ fm (cO en c κ1)))) [some (.ref (c 0)), some (.ref (b 0)), some (.ref (b 1)), some (.ref (b 2)), some (.ref (b 3)), some (.ref (b 4)), some (.int (zI one)), some (.int (zI two)), some (.int (zI (pt P))), some (.int (zI (al P))), some (.int (zI 1)), none, some (.ref qe), some (.int (zI cl)), some (.int (zI s)), some (.int (zI (wi + y))), some (.int (zI p2)), some (.int (zI k)), some (.int (zI j))] [] 372 := fun j p2 hj hp2 => loop_372 _ j p2 rfl hj hp2
        refine V_iadd dL_areLives_366 ?_
        refine V_istore (L' := [some (.ref (c 0)), some (.ref (b 0)), some (.ref (b 1)), some (.ref (b 2)), some (.ref (b 3)), some (.ref (b 4)), some (.int (zI one)), some (.int (zI two)), some (.int (zI (pt P))), some (.int (zI (al P))), some (.int (zI 1)), none, some (.ref qe), some (.int (zI cl)), some (.int (zI s)), some (.int (zI (wi + y))), some (.int (zI pr)), some (.int (zI k)), none]) dL_areLives_367 (by decide) rfl ?_
        refine V_iconst dL_areLives_369 ?_
        refine V_istore (L' := [some (.ref (c 0)), some (.ref (b 0)), some (.ref (b 1)), some (.ref (b 2)), some (.ref (b 3)), some (.ref (b 4)), some (.int (zI one)), some (.int (zI two)), some (.int (zI (pt P))), some (.int (zI (al P))), some (.int (zI 1)), none, some (.ref qe), some (.int (zI cl)), some (.int (zI s)), some (.int (zI (wi + y))), some (.int (zI pr)), some (.int (zI k)), some (.int (zI 0))]) dL_areLives_370 (by decide) rfl ?_
        refine seg_372 0 pr ?_ ?_
        · omega
        · rw [ct_0 _ (by omega)]; omega
      refine V_iload dL_areLives_332 rfl ?_
      refine V_iload dL_areLives_334 rfl ?_
      refine V_icmp_ge (tgt := 427) dL_areLives_336 (by decide) ⟨⟨by omega, by omega⟩, ⟨by omega, by omega⟩⟩ (fun c_39 => ?_) (fun c_39 => ?_)
      · have hcc := cc_cell hM hcl2.1 hcl2.2
        have hmb := hmxb (selS P s) (al P) hsm.2.1
        have hEs := hEf s hs.1 (by omega)
        have hEb := hmb
        rw [← hEs] at hEb
        have hprb := smv_b (f := fun a => ct (fun b => cf P (P 0 11) (P 0 12) (s * pt P + b) (s * pt P + a)) a) (B := 16) k hk.1 (fun a x y => by have := ct_b (fun b => cf P (P 0 11) (P 0 12) (s * pt P + b) (s * pt P + a)) a x; omega)
        rw [← hpr] at hprb
        have hct := cpr_tri hM (P := P) (s := s)
        have hpr2 : pr = smv (fun a => ct (fun b => cf P (P 0 11) (P 0 12) (s * pt P + b) (s * pt P + a)) a) (pt P) := by rw [hpr, show k = pt P by omega]
        rw [← hpr2] at hct
        have hwb := ct_b (fun p => cf P (P 0 11) (P 0 12) cl (s * pt P + p)) k hk.1
        have hwb3 := ct_b (fun p => cf P (P 0 11) (P 0 12) cl (s * pt P + p)) (pt P) (by omega)
        have hwb2 := hwb
        rw [← hwi] at hwb2
        have hcs := cell_st hM hcl2.1 hcl2.2
        have hrc := place_rc hM hcs.2.2.1 hcs.2.2.2.1
        refine V_aload_n dL_areLives_427 rfl ?_
        refine V_iload dL_areLives_428 rfl ?_
        refine V_callVB (As := [.int (zI s)]) (b := c 0) (ci := 9) (fs := cwF c κ1) (T := TX10) (N := 9) (lW_cw b τ ((qe, iE 0 4 Ef) :: Y) en c κ1) rfl (wr := (lW b τ ((qe, iE 0 4 Ef) :: Y))) (wc := fm (cO en c κ1)) rfl hK (MC.env EX.en (r_mostLiveOf en c κ1 s P ⟨hM, hC1, ⟨hs.1, hsn⟩⟩)) mokX10_mostLiveOf w895 w896 w897 ⟨Nat.le_of_ble_eq_true rfl, Nat.le_of_ble_eq_true rfl⟩ rfl (Nat.le_of_ble_eq_true rfl) ⟨(by show k1 + 0 + 1 ≤ 1000; omega), (by show n1 + 0 + 6 ≤ 10000; omega)⟩ dL_areLives_430 (fun v w p_40 => ?_)
        obtain ⟨κ_41, rfl, rfl, q_42⟩ := p_40
        show V K tL_areLives (k1 + 1) (n1 + 6) (lW b τ ((qe, iE 0 4 Ef) :: (Y ++ fm (cO en c κ_41)))) _ [.int (zI (mxv (lvN P (P 0 11) (P 0 12) (selS P s)) (al P)))] 433
        refine V_aload dL_areLives_433 rfl ?_
        refine V_iload dL_areLives_435 rfl ?_
        refine V_iald (N := 4) (f := Ef) 5 rfl ⟨by omega, by omega⟩ (by decide) dL_areLives_437 ?_
        refine V_icmp_ne (tgt := 490) dL_areLives_438 (by decide) ⟨⟨by omega, by omega⟩, ⟨by omega, by omega⟩⟩ (fun c_43 => absurd (hEs.symm) c_43) (fun _ => ?_)
        refine V_aload_n dL_areLives_441 rfl ?_
        refine V_iload dL_areLives_442 rfl ?_
        refine V_callVB (As := [.int (zI s)]) (b := c 0) (ci := 9) (fs := cwF c κ_41) (T := TX10) (N := 9) (lW_cw b τ ((qe, iE 0 4 Ef) :: Y) en c κ_41) rfl (wr := (lW b τ ((qe, iE 0 4 Ef) :: Y))) (wc := fm (cO en c κ_41)) rfl hK (MC.env EX.en (r_conflictPairs en c κ_41 s P ⟨hM, q_42, ⟨hs.1, hsn⟩⟩)) mokX10_conflictPairs w900 w901 w902 ⟨Nat.le_of_ble_eq_true rfl, Nat.le_of_ble_eq_true rfl⟩ rfl (Nat.le_of_ble_eq_true rfl) ⟨(by show k1 + 1 + 1 ≤ 1000; omega), (by show n1 + 6 + 6 ≤ 10000; omega)⟩ dL_areLives_444 (fun v w p_44 => ?_)
        obtain ⟨κ_45, rfl, rfl, q_46⟩ := p_44
        show V K tL_areLives (k1 + 2) (n1 + 12) (lW b τ ((qe, iE 0 4 Ef) :: (Y ++ fm (cO en c κ_45)))) _ [.int (zI (cpr P s / 2))] 447
        refine V_iload dL_areLives_447 rfl ?_
        refine V_icmp_ne (tgt := 490) dL_areLives_449 (by decide) ⟨⟨by omega, by omega⟩, ⟨by omega, by omega⟩⟩ (fun c_47 => absurd (hct) c_47) (fun _ => ?_)
        refine V_aload_n dL_areLives_452 rfl ?_
        refine V_iload dL_areLives_453 rfl ?_
        refine V_iload dL_areLives_455 rfl ?_
        refine V_idiv dL_areLives_457 ⟨⟨by omega, by omega⟩, ⟨by omega, by omega⟩, by omega, by omega⟩ ?_
        refine V_iload dL_areLives_458 rfl ?_
        refine V_iload dL_areLives_460 rfl ?_
        refine V_iremN dL_areLives_462 ⟨⟨by omega, by omega⟩, ⟨by omega, by omega⟩, by omega, by omega⟩ ?_
        refine V_aload_n dL_areLives_463 rfl ?_
        refine V_iconst dL_areLives_464 ?_
        refine ll_0 ⟨by omega, by omega⟩ dL_areLives_465 ?_
        refine V_eqT (y := zI (P 0 1)) (congrArg zI (LR.g1 hL)) ?_
        refine V_idiv dL_areLives_466 ⟨⟨by omega, by omega⟩, ⟨by omega, by omega⟩, by omega, by omega⟩ ?_
        refine V_iload dL_areLives_467 rfl ?_
        refine V_iload dL_areLives_469 rfl ?_
        refine V_iremN dL_areLives_471 ⟨⟨by omega, by omega⟩, ⟨by omega, by omega⟩, by omega, by omega⟩ ?_
        refine V_aload_n dL_areLives_472 rfl ?_
        refine V_iconst dL_areLives_473 ?_
        refine ll_0 ⟨by omega, by omega⟩ dL_areLives_474 ?_
        refine V_eqT (y := zI (P 0 1)) (congrArg zI (LR.g1 hL)) ?_
        refine V_iremN dL_areLives_475 ⟨⟨by omega, by omega⟩, ⟨by omega, by omega⟩, by omega, by omega⟩ ?_
        refine V_iload dL_areLives_476 rfl ?_
        refine V_callVB (As := [.int (zI (cl / (pt P))), .int (zI ((cl % (pt P)) / (P 0 1))), .int (zI ((cl % (pt P)) % (P 0 1))), .int (zI s)]) (b := c 0) (ci := 9) (fs := cwF c κ_45) (T := TX10) (N := 9) (lW_cw b τ ((qe, iE 0 4 Ef) :: Y) en c κ_45) rfl (wr := (lW b τ ((qe, iE 0 4 Ef) :: Y))) (wc := fm (cO en c κ_45)) rfl hK (MC.env EX.en (r_conflictsOf en c κ_45 (cl / (pt P)) ((cl % (pt P)) / (P 0 1)) ((cl % (pt P)) % (P 0 1)) s P ⟨hM, q_46, hcc.1, hs.1, hsn⟩)) mokX10_conflictsOf w909 w910 w911 ⟨Nat.le_of_ble_eq_true rfl, Nat.le_of_ble_eq_true rfl⟩ rfl (Nat.le_of_ble_eq_true rfl) ⟨(by show k1 + 2 + 3 ≤ 1000; omega), (by show n1 + 12 + 18 ≤ 10000; omega)⟩ dL_areLives_478 (fun v w p_48 => ?_)
        obtain ⟨κ_49, rfl, rfl, q_50⟩ := p_48
        show V K tL_areLives (k1 + 5) (n1 + 30) (lW b τ ((qe, iE 0 4 Ef) :: (Y ++ fm (cO en c κ_49)))) _ [.int (zI (ct (fun p => cf P (P 0 11) (P 0 12) (cc P (cl / (pt P)) ((cl % (pt P)) / (P 0 1)) ((cl % (pt P)) % (P 0 1))) (s * pt P + p)) (pt P)))] 481
        refine V_iload dL_areLives_481 rfl ?_
        refine V_icmp_ne (tgt := 490) dL_areLives_483 (by decide) ⟨⟨by rw [hcc.2]; omega, by rw [hcc.2]; omega⟩, ⟨by omega, by omega⟩⟩ (fun c_51 => absurd (by rw [hcc.2, hwi, show k = pt P by omega]) c_51) (fun _ => ?_)
        refine V_iconst dL_areLives_486 ?_
        refine V_goto (tgt := 491) dL_areLives_487 (by decide) ?_
        refine V_istore (L' := [some (.ref (c 0)), some (.ref (b 0)), some (.ref (b 1)), some (.ref (b 2)), some (.ref (b 3)), some (.ref (b 4)), some (.int (zI one)), some (.int (zI two)), some (.int (zI (pt P))), some (.int (zI (al P))), some (.int (zI 1)), none, some (.ref qe), some (.int (zI cl)), some (.int (zI s)), some (.int (zI wi)), some (.int (zI pr)), some (.int (zI k)), none]) dL_areLives_491 (by decide) rfl ?_
        refine V_iinc (L' := [some (.ref (c 0)), some (.ref (b 0)), some (.ref (b 1)), some (.ref (b 2)), some (.ref (b 3)), some (.ref (b 4)), some (.int (zI one)), some (.int (zI two)), some (.int (zI (pt P))), some (.int (zI (al P))), some (.int (zI 1)), none, some (.ref qe), some (.int (zI cl)), some (.int (zI (s + 1))), some (.int (zI wi)), some (.int (zI pr)), some (.int (zI k)), none]) dL_areLives_493 (by decide) rfl rfl ?_
        refine V_goto (tgt := 310) dL_areLives_496 (by decide) ?_
        refine V_mask (L' := [some (.ref (c 0)), some (.ref (b 0)), some (.ref (b 1)), some (.ref (b 2)), some (.ref (b 3)), some (.ref (b 4)), some (.int (zI one)), some (.int (zI two)), some (.int (zI (pt P))), some (.int (zI (al P))), some (.int (zI 1)), none, some (.ref qe), some (.int (zI cl)), some (.int (zI (s + 1))), none, none, none, none]) [true, true, true, true, true, true, true, true, true, true, true, false, true, true, true, false, false, false, false] rfl ?_
        refine ih_310 _ (by omega) (s + 1) cl qe Ef κ_49 (k1 + 5) (n1 + 30) rfl ?_ ?_ ?_ ?_ ?_ ?_
        · omega
        · exact hcl
        · exact hEf
        · exact q_50
        · omega
        · omega
      · have hck := comp_eq hM hs.1 hsn hk.1 (show k < pt P by omega)
        refine V_iload dL_areLives_339 rfl ?_
        refine V_aload dL_areLives_341 rfl ?_
        refine V_aload dL_areLives_343 rfl ?_
        refine V_iload dL_areLives_345 rfl ?_
        refine V_iload dL_areLives_347 rfl ?_
        refine V_iload dL_areLives_349 rfl ?_
        refine V_imul dL_areLives_351 ?_
        refine V_iload dL_areLives_352 rfl ?_
        refine V_iadd dL_areLives_354 ?_
        refine V_callSF (As := [.ref (b 3), .ref (b 4), .int (zI cl), .int (zI ((s * (pt P)) + k))]) hK (q_inConflict (EX.stb en) b τ ((qe, iE 0 4 Ef) :: (Y ++ fm (cO en c κ1))) cl ((s * (pt P)) + k) P ⟨hM, hL, hT, hE4, hcl2, hck.1⟩) mokL_inConflict w892 w893 ⟨Nat.le_of_ble_eq_true rfl, Nat.le_of_ble_eq_true rfl⟩ rfl (Nat.le_of_ble_eq_true rfl) ⟨(by show k1 + 0 + 0 ≤ 1000; omega), (by show n1 + 0 + 0 ≤ 10000; omega)⟩ dL_areLives_355 (fun v w p_52 => ?_)
        obtain ⟨rfl, rfl⟩ := p_52
        show V K tL_areLives k1 n1 (lW b τ ((qe, iE 0 4 Ef) :: (Y ++ fm (cO en c κ1)))) _ [.int (zI (bz (cf P (P 0 11) (P 0 12) cl ((s * (pt P)) + k)))), .int (zI wi)] 358
        refine V_ifb_eq (tgt := 365) dL_areLives_358 (by decide) (fun c_53 => ?_) (fun c_53 => ?_)
        · refine V_iconst dL_areLives_365 ?_
          refine V_mask (L' := [some (.ref (c 0)), some (.ref (b 0)), some (.ref (b 1)), some (.ref (b 2)), some (.ref (b 3)), some (.ref (b 4)), some (.int (zI one)), some (.int (zI two)), some (.int (zI (pt P))), some (.int (zI (al P))), some (.int (zI 1)), none, some (.ref qe), some (.int (zI cl)), some (.int (zI s)), none, some (.int (zI pr)), some (.int (zI k)), none]) [true, true, true, true, true, true, true, true, true, true, true, false, true, true, true, false, true, true, false] rfl ?_
          refine seg_366 0 ?_ ?_
          · omega
          · rw [c_53]; rfl
        · refine V_iconst dL_areLives_361 ?_
          refine V_goto (tgt := 366) dL_areLives_362 (by decide) ?_
          refine V_mask (L' := [some (.ref (c 0)), some (.ref (b 0)), some (.ref (b 1)), some (.ref (b 2)), some (.ref (b 3)), some (.ref (b 4)), some (.int (zI one)), some (.int (zI two)), some (.int (zI (pt P))), some (.int (zI (al P))), some (.int (zI 1)), none, some (.ref qe), some (.int (zI cl)), some (.int (zI s)), none, some (.int (zI pr)), some (.int (zI k)), none]) [true, true, true, true, true, true, true, true, true, true, true, false, true, true, true, false, true, true, false] rfl ?_
          refine seg_366 1 ?_ ?_
          · omega
          · rw [c_53]; rfl
    have seg_332 : ∀ (k : Int) (wi : Int) (pr : Int), (s < P 0 2) → (0 ≤ k ∧ k ≤ pt P) → (wi = ct (fun p => cf P (P 0 11) (P 0 12) cl (s * pt P + p)) k) → (pr = smv (fun a => ct (fun b => cf P (P 0 11) (P 0 12) (s * pt P + b) (s * pt P + a)) a) k) → V K tL_areLives k1 n1 (lW b τ ((qe, iE 0 4 Ef) :: (Y ++ fm (cO en c κ1)))) [some (.ref (c 0)), some (.ref (b 0)), some (.ref (b 1)), some (.ref (b 2)), some (.ref (b 3)), some (.ref (b 4)), some (.int (zI one)), some (.int (zI two)), some (.int (zI (pt P))), some (.int (zI (al P))), some (.int (zI 1)), none, some (.ref qe), some (.int (zI cl)), some (.int (zI s)), some (.int (zI wi)), some (.int (zI pr)), some (.int (zI k)), none] [] 332 := fun k wi pr hsn hk hwi hpr => loop_332 _ k wi pr rfl hsn hk hwi hpr
    refine V_iload dL_areLives_310 rfl ?_
    refine V_aload_n dL_areLives_312 rfl ?_
    refine V_iconst dL_areLives_313 ?_
    refine ll_0 ⟨by omega, by omega⟩ dL_areLives_314 ?_
    refine V_eqT (y := zI (P 0 2)) (congrArg zI (LR.g2 hL)) ?_
    refine V_icmp_ge (tgt := 499) dL_areLives_315 (by decide) ⟨⟨by omega, by omega⟩, ⟨by omega, by omega⟩⟩ (fun c_54 => ?_) (fun c_54 => ?_)
    · refine V_iload dL_areLives_499 rfl ?_
      refine V_iconst dL_areLives_501 ?_
      refine V_iremN dL_areLives_502 ⟨⟨by omega, by omega⟩, ⟨by omega, by omega⟩, by omega, by omega⟩ ?_
      refine V_istore (L' := [some (.ref (c 0)), some (.ref (b 0)), some (.ref (b 1)), some (.ref (b 2)), some (.ref (b 3)), some (.ref (b 4)), some (.int (zI one)), some (.int (zI two)), some (.int (zI (pt P))), some (.int (zI (al P))), some (.int (zI 1)), none, some (.ref qe), some (.int (zI cl)), some (.int (zI (one % 3))), none, none, none, none]) dL_areLives_503 (by decide) rfl ?_
      refine V_mask (L' := [some (.ref (c 0)), some (.ref (b 0)), some (.ref (b 1)), some (.ref (b 2)), some (.ref (b 3)), some (.ref (b 4)), some (.int (zI one)), some (.int (zI two)), some (.int (zI (pt P))), some (.int (zI (al P))), some (.int (zI 1)), none, none, none, some (.int (zI (one % 3))), none, none, none, none]) [true, true, true, true, true, true, true, true, true, true, true, false, false, false, true, false, false, false, false] rfl ?_
      refine V_Sub (ws' := (lW b τ (Y ++ fm (cO en c κ1)))) (by first | exact lW_drop0 | exact lW_drop1 | exact lW_drop2) ?_
      refine seg_505 (one % 3) κ1 k1 n1 ?_ ?_ ?_ ?_
      · omega
      · exact hC1
      · omega
      · omega
    · refine V_iload dL_areLives_318 rfl ?_
      refine V_if_eq (tgt := 499) dL_areLives_320 (by decide) ⟨by decide, by decide⟩ (fun h => absurd h (by decide)) (fun _ => ?_)
      refine V_iconst dL_areLives_323 ?_
      refine V_istore (L' := [some (.ref (c 0)), some (.ref (b 0)), some (.ref (b 1)), some (.ref (b 2)), some (.ref (b 3)), some (.ref (b 4)), some (.int (zI one)), some (.int (zI two)), some (.int (zI (pt P))), some (.int (zI (al P))), some (.int (zI 1)), none, some (.ref qe), some (.int (zI cl)), some (.int (zI s)), some (.int (zI 0)), none, none, none]) dL_areLives_324 (by decide) rfl ?_
      refine V_iconst dL_areLives_326 ?_
      refine V_istore (L' := [some (.ref (c 0)), some (.ref (b 0)), some (.ref (b 1)), some (.ref (b 2)), some (.ref (b 3)), some (.ref (b 4)), some (.int (zI one)), some (.int (zI two)), some (.int (zI (pt P))), some (.int (zI (al P))), some (.int (zI 1)), none, some (.ref qe), some (.int (zI cl)), some (.int (zI s)), some (.int (zI 0)), some (.int (zI 0)), none, none]) dL_areLives_327 (by decide) rfl ?_
      refine V_iconst dL_areLives_329 ?_
      refine V_istore (L' := [some (.ref (c 0)), some (.ref (b 0)), some (.ref (b 1)), some (.ref (b 2)), some (.ref (b 3)), some (.ref (b 4)), some (.int (zI one)), some (.int (zI two)), some (.int (zI (pt P))), some (.int (zI (al P))), some (.int (zI 1)), none, some (.ref qe), some (.int (zI cl)), some (.int (zI s)), some (.int (zI 0)), some (.int (zI 0)), some (.int (zI 0)), none]) dL_areLives_330 (by decide) rfl ?_
      refine seg_332 0 0 0 ?_ ?_ ?_ ?_
      · omega
      · omega
      · rw [ct_0 _ (by omega)]
      · exact (smv_0 _).symm
  have seg_310 : ∀ (s : Int) (cl : Int) (qe : Nat) (Ef : Int → Int) (κ1 : St) (k1 : Nat) (n1 : Nat), (0 ≤ s ∧ s ≤ P 0 2) → ((al P = 0 ∧ cl = 0) ∨ (0 ≤ cl ∧ cl < al P)) → (∀ s, 0 ≤ s → s < 4 → Ef s = mxv (lvN P (P 0 11) (P 0 12) (selS P s)) (al P)) → (CWP P κ1) → (k1 ≤ 160 + 5 * s.toNat) → (n1 ≤ 900 + 30 * s.toNat) → V K tL_areLives k1 n1 (lW b τ ((qe, iE 0 4 Ef) :: (Y ++ fm (cO en c κ1)))) [some (.ref (c 0)), some (.ref (b 0)), some (.ref (b 1)), some (.ref (b 2)), some (.ref (b 3)), some (.ref (b 4)), some (.int (zI one)), some (.int (zI two)), some (.int (zI (pt P))), some (.int (zI (al P))), some (.int (zI 1)), none, some (.ref qe), some (.int (zI cl)), some (.int (zI s)), none, none, none, none] [] 310 := fun s cl qe Ef κ1 k1 n1 hs hcl hEf hC1 hk1 hn1 => loop_310 _ s cl qe Ef κ1 k1 n1 rfl hs hcl hEf hC1 hk1 hn1
  have seg_305 : ∀ (cl : Int) (qe : Nat) (Ef : Int → Int) (κ1 : St) (k1 : Nat) (n1 : Nat), ((al P = 0 ∧ cl = 0) ∨ (0 ≤ cl ∧ cl < al P)) → (∀ s, 0 ≤ s → s < 4 → Ef s = mxv (lvN P (P 0 11) (P 0 12) (selS P s)) (al P)) → (CWP P κ1) → (k1 ≤ 160) → (n1 ≤ 900) → V K tL_areLives k1 n1 (lW b τ ((qe, iE 0 4 Ef) :: (Y ++ fm (cO en c κ1)))) [some (.ref (c 0)), some (.ref (b 0)), some (.ref (b 1)), some (.ref (b 2)), some (.ref (b 3)), some (.ref (b 4)), some (.int (zI one)), some (.int (zI two)), some (.int (zI (pt P))), some (.int (zI (al P))), some (.int (zI 1)), none, some (.ref qe), none, none, none, none, none, none] [.int (zI cl)] 305 := by
    intro cl qe Ef κ1 k1 n1 hcl hEf hC1 hk1 hn1
    refine V_istore (L' := [some (.ref (c 0)), some (.ref (b 0)), some (.ref (b 1)), some (.ref (b 2)), some (.ref (b 3)), some (.ref (b 4)), some (.int (zI one)), some (.int (zI two)), some (.int (zI (pt P))), some (.int (zI (al P))), some (.int (zI 1)), none, some (.ref qe), some (.int (zI cl)), none, none, none, none, none]) dL_areLives_305 (by decide) rfl ?_
    refine V_iconst dL_areLives_307 ?_
    refine V_istore (L' := [some (.ref (c 0)), some (.ref (b 0)), some (.ref (b 1)), some (.ref (b 2)), some (.ref (b 3)), some (.ref (b 4)), some (.int (zI one)), some (.int (zI two)), some (.int (zI (pt P))), some (.int (zI (al P))), some (.int (zI 1)), none, some (.ref qe), some (.int (zI cl)), some (.int (zI 0)), none, none, none, none]) dL_areLives_308 (by decide) rfl ?_
    refine seg_310 0 cl qe Ef κ1 k1 n1 ?_ ?_ ?_ ?_ ?_ ?_
    · omega
    · exact hcl
    · exact hEf
    · exact hC1
    · omega
    · omega
  have loop_74 : ∀ (n0 : Nat) (k : Int) (mo : Int) (qe : Nat) (Ef : Int → Int) (κ1 : St) (k1 : Nat) (n1 : Nat), (al P - k).toNat = n0 → (0 ≤ k ∧ k ≤ al P) → (mo = mxv (lvN P (P 0 11) (P 0 12) (selS P (-1))) k) → (∀ s, 0 ≤ s → s < 4 → Ef s = mxv (lvN P (P 0 11) (P 0 12) (selS P s)) k) → (CWP P κ1) → (k1 ≤ 20 + 2 * k.toNat) → (n1 ≤ 100 + 10 * k.toNat) → V K tL_areLives k1 n1 (lW b τ ((qe, iE 0 4 Ef) :: (Y ++ fm (cO en c κ1)))) [some (.ref (c 0)), some (.ref (b 0)), some (.ref (b 1)), some (.ref (b 2)), some (.ref (b 3)), some (.ref (b 4)), some (.int (zI one)), some (.int (zI two)), some (.int (zI (pt P))), some (.int (zI (al P))), some (.int (zI 1)), some (.int (zI mo)), some (.ref qe), some (.int (zI k)), none, none, none, none, none] [] 74 := by
    intro n0
    induction n0 using Nat.strongRecOn with
    | _ n0 ih_74 =>
    intro k mo qe Ef κ1 k1 n1 hm_74 hk hmo hEf hC1 hk1 hn1
    have loop_176 : ∀ (n0 : Nat) (i : Int) (lv : Int) (qn : Nat) (Nf : Int → Int) (E2 : Int → Int) (k2 : Nat) (n2 : Nat), (4 - i).toNat = n0 → (k < al P) → (0 ≤ i ∧ i ≤ 4) → (lv = lvN P (P 0 11) (P 0 12) (selS P (-1)) k) → (∀ s, 0 ≤ s → s < 4 → Nf s = lvN P (P 0 11) (P 0 12) (selS P s) k) → (∀ s, 0 ≤ s → s < 4 → (s < i → E2 s = mxv (lvN P (P 0 11) (P 0 12) (selS P s)) (k + 1)) ∧ (i ≤ s → E2 s = mxv (lvN P (P 0 11) (P 0 12) (selS P s)) k)) → (k2 ≤ k1 + 1) → (n2 ≤ n1 + 4) → V K tL_areLives k2 n2 (lW b τ ((qn, iE 0 4 Nf) :: ((qe, iE 0 4 E2) :: (Y ++ fm (cO en c κ1))))) [some (.ref (c 0)), some (.ref (b 0)), some (.ref (b 1)), some (.ref (b 2)), some (.ref (b 3)), some (.ref (b 4)), some (.int (zI one)), some (.int (zI two)), some (.int (zI (pt P))), some (.int (zI (al P))), some (.int (zI 1)), some (.int (zI mo)), some (.ref qe), some (.int (zI k)), some (.int (zI lv)), some (.ref qn), some (.int (zI i)), none, none] [] 176 := by
      intro n0
      induction n0 using Nat.strongRecOn with
      | _ n0 ih_176 =>
      intro i lv qn Nf E2 k2 n2 hm_176 hkn hi hlv hNf hE2 hk2 hn2
      have seg_233 : ∀ (m2 : Int), (4 ≤ i) → (m2 = mxv (lvN P (P 0 11) (P 0 12) (selS P (-1))) (k + 1)) → V K tL_areLives k2 n2 (lW b τ ((qn, iE 0 4 Nf) :: ((qe, iE 0 4 E2) :: (Y ++ fm (cO en c κ1))))) [some (.ref (c 0)), some (.ref (b 0)), some (.ref (b 1)), some (.ref (b 2)), some (.ref (b 3)), some (.ref (b 4)), some (.int (zI one)), some (.int (zI two)), some (.int (zI (pt P))), some (.int (zI (al P))), some (.int (zI 1)), none, some (.ref qe), some (.int (zI k)), some (.int (zI lv)), some (.ref qn), none, none, none] [.int (zI m2)] 233 := by
        intro m2 hi4 hm2
        refine V_istore (L' := [some (.ref (c 0)), some (.ref (b 0)), some (.ref (b 1)), some (.ref (b 2)), some (.ref (b 3)), some (.ref (b 4)), some (.int (zI one)), some (.int (zI two)), some (.int (zI (pt P))), some (.int (zI (al P))), some (.int (zI 1)), some (.int (zI m2)), some (.ref qe), some (.int (zI k)), some (.int (zI lv)), some (.ref qn), none, none, none]) dL_areLives_233 (by decide) rfl ?_
        refine V_iload dL_areLives_235 rfl ?_
        refine V_iconst dL_areLives_237 ?_
        refine V_iremN dL_areLives_238 ⟨⟨by omega, by omega⟩, ⟨by omega, by omega⟩, by omega, by omega⟩ ?_
        refine V_iload dL_areLives_239 rfl ?_
        refine V_iconst dL_areLives_241 ?_
        refine V_iremN dL_areLives_242 ⟨⟨by omega, by omega⟩, ⟨by omega, by omega⟩, by omega, by omega⟩ ?_
        refine V_icmp_ne (tgt := 257) dL_areLives_243 (by decide) ⟨⟨by omega, by omega⟩, ⟨by omega, by omega⟩⟩ (fun c_56 => ?_) (fun c_56 => ?_)
        · refine V_iconst dL_areLives_257 ?_
          refine V_goto (tgt := 262) dL_areLives_258 (by decide) ?_
          refine V_istore (L' := [some (.ref (c 0)), some (.ref (b 0)), some (.ref (b 1)), some (.ref (b 2)), some (.ref (b 3)), some (.ref (b 4)), some (.int (zI one)), some (.int (zI two)), some (.int (zI (pt P))), some (.int (zI (al P))), some (.int (zI 1)), some (.int (zI m2)), some (.ref qe), some (.int (zI k)), some (.int (zI lv)), some (.ref qn), none, none, none]) dL_areLives_262 (by decide) rfl ?_
          refine V_iinc (L' := [some (.ref (c 0)), some (.ref (b 0)), some (.ref (b 1)), some (.ref (b 2)), some (.ref (b 3)), some (.ref (b 4)), some (.int (zI one)), some (.int (zI two)), some (.int (zI (pt P))), some (.int (zI (al P))), some (.int (zI 1)), some (.int (zI m2)), some (.ref qe), some (.int (zI (k + 1))), some (.int (zI lv)), some (.ref qn), none, none, none]) dL_areLives_264 (by decide) rfl rfl ?_
          refine V_goto (tgt := 74) dL_areLives_267 (by decide) ?_
          refine V_mask (L' := [some (.ref (c 0)), some (.ref (b 0)), some (.ref (b 1)), some (.ref (b 2)), some (.ref (b 3)), some (.ref (b 4)), some (.int (zI one)), some (.int (zI two)), some (.int (zI (pt P))), some (.int (zI (al P))), some (.int (zI 1)), some (.int (zI m2)), some (.ref qe), some (.int (zI (k + 1))), none, none, none, none, none]) [true, true, true, true, true, true, true, true, true, true, true, true, true, true, false, false, false, false, false] rfl ?_
          refine V_Sub (ws' := (lW b τ ((qe, iE 0 4 E2) :: (Y ++ fm (cO en c κ1))))) (by first | exact lW_drop0 | exact lW_drop1 | exact lW_drop2) ?_
          refine ih_74 _ (by omega) (k + 1) m2 qe E2 κ1 k2 n2 rfl ?_ ?_ ?_ ?_ ?_ ?_
          · omega
          · exact hm2
          · intro s a b; exact (hE2 s a b).1 (by omega)
          · exact hC1
          · omega
          · omega
        · have hk5 : k < al P := hkn
          refine V_aload_n dL_areLives_246 rfl ?_
          refine V_iload dL_areLives_247 rfl ?_
          refine V_callVB (As := [.int (zI k)]) (b := c 0) (ci := 9) (fs := cwF c κ1) (T := TX10) (N := 9) (lW_cw b τ ((qn, iE 0 4 Nf) :: ((qe, iE 0 4 E2) :: Y)) en c κ1) rfl (wr := (lW b τ ((qn, iE 0 4 Nf) :: ((qe, iE 0 4 E2) :: Y)))) (wc := fm (cO en c κ1)) rfl hK (MC.env EX.en (r_liveAt en c κ1 k P ⟨hM, hC1, ⟨hk.1, hkn⟩⟩)) mokX10_liveAt w847 w848 w849 ⟨Nat.le_of_ble_eq_true rfl, Nat.le_of_ble_eq_true rfl⟩ rfl (Nat.le_of_ble_eq_true rfl) ⟨(by show k2 + 0 + 1 ≤ 1000; omega), (by show n2 + 0 + 6 ≤ 10000; omega)⟩ dL_areLives_249 (fun v w p_57 => ?_)
          obtain ⟨κ_58, rfl, rfl, q_59⟩ := p_57
          show V K tL_areLives (k2 + 1) (n2 + 6) (lW b τ ((qn, iE 0 4 Nf) :: ((qe, iE 0 4 E2) :: (Y ++ fm (cO en c κ_58))))) _ [.int (zI (lvN P (P 0 11) (P 0 12) (selS P (-1)) k))] 252
          have hlb := hlvb (selS P (-1)) k
          have hlb2 := hlb
          rw [← hlv] at hlb2
          refine V_iload dL_areLives_252 rfl ?_
          refine V_icmp_ne (tgt := 261) dL_areLives_254 (by decide) ⟨⟨by omega, by omega⟩, ⟨by omega, by omega⟩⟩ (fun c_60 => absurd (hlv.symm) c_60) (fun _ => ?_)
          refine V_iconst dL_areLives_257 ?_
          refine V_goto (tgt := 262) dL_areLives_258 (by decide) ?_
          refine V_istore (L' := [some (.ref (c 0)), some (.ref (b 0)), some (.ref (b 1)), some (.ref (b 2)), some (.ref (b 3)), some (.ref (b 4)), some (.int (zI one)), some (.int (zI two)), some (.int (zI (pt P))), some (.int (zI (al P))), some (.int (zI 1)), some (.int (zI m2)), some (.ref qe), some (.int (zI k)), some (.int (zI lv)), some (.ref qn), none, none, none]) dL_areLives_262 (by decide) rfl ?_
          refine V_iinc (L' := [some (.ref (c 0)), some (.ref (b 0)), some (.ref (b 1)), some (.ref (b 2)), some (.ref (b 3)), some (.ref (b 4)), some (.int (zI one)), some (.int (zI two)), some (.int (zI (pt P))), some (.int (zI (al P))), some (.int (zI 1)), some (.int (zI m2)), some (.ref qe), some (.int (zI (k + 1))), some (.int (zI lv)), some (.ref qn), none, none, none]) dL_areLives_264 (by decide) rfl rfl ?_
          refine V_goto (tgt := 74) dL_areLives_267 (by decide) ?_
          refine V_mask (L' := [some (.ref (c 0)), some (.ref (b 0)), some (.ref (b 1)), some (.ref (b 2)), some (.ref (b 3)), some (.ref (b 4)), some (.int (zI one)), some (.int (zI two)), some (.int (zI (pt P))), some (.int (zI (al P))), some (.int (zI 1)), some (.int (zI m2)), some (.ref qe), some (.int (zI (k + 1))), none, none, none, none, none]) [true, true, true, true, true, true, true, true, true, true, true, true, true, true, false, false, false, false, false] rfl ?_
          refine V_Sub (ws' := (lW b τ ((qe, iE 0 4 E2) :: (Y ++ fm (cO en c κ_58))))) (by first | exact lW_drop0 | exact lW_drop1 | exact lW_drop2) ?_
          refine ih_74 _ (by omega) (k + 1) m2 qe E2 κ_58 (k2 + 1) (n2 + 6) rfl ?_ ?_ ?_ ?_ ?_ ?_
          · omega
          · exact hm2
          · intro s a b; exact (hE2 s a b).1 (by omega)
          · exact q_59
          · omega
          · omega
      have seg_212 : ∀ (x : Int), (i < 4) → (x = mxv (lvN P (P 0 11) (P 0 12) (selS P i)) (k + 1)) → V K tL_areLives k2 n2 (lW b τ ((qn, iE 0 4 Nf) :: ((qe, iE 0 4 E2) :: (Y ++ fm (cO en c κ1))))) [some (.ref (c 0)), some (.ref (b 0)), some (.ref (b 1)), some (.ref (b 2)), some (.ref (b 3)), some (.ref (b 4)), some (.int (zI one)), some (.int (zI two)), some (.int (zI (pt P))), some (.int (zI (al P))), some (.int (zI 1)), some (.int (zI mo)), some (.ref qe), some (.int (zI k)), some (.int (zI lv)), some (.ref qn), some (.int (zI i)), none, none] [.int (zI x), .int (zI i), .ref qe] 212 := by
        intro x hi4 hx
        refine V_iast (N := 4) (f := E2) 6 rfl ⟨by omega, by omega⟩ (by decide) dL_areLives_212 ?_
        show V K tL_areLives k2 n2 (lW b τ ((qn, iE 0 4 Nf) :: ((qe, iE 0 4 (fup E2 i x)) :: (Y ++ fm (cO en c κ1))))) _ [] 213
        refine V_iinc (L' := [some (.ref (c 0)), some (.ref (b 0)), some (.ref (b 1)), some (.ref (b 2)), some (.ref (b 3)), some (.ref (b 4)), some (.int (zI one)), some (.int (zI two)), some (.int (zI (pt P))), some (.int (zI (al P))), some (.int (zI 1)), some (.int (zI mo)), some (.ref qe), some (.int (zI k)), some (.int (zI lv)), some (.ref qn), some (.int (zI (i + 1))), none, none]) dL_areLives_213 (by decide) rfl rfl ?_
        refine V_goto (tgt := 176) dL_areLives_216 (by decide) ?_
        refine ih_176 _ (by omega) (i + 1) lv qn Nf (fup E2 i x) k2 n2 rfl ?_ ?_ ?_ ?_ ?_ ?_ ?_
        · omega
        · omega
        · omega
        · omega
        · intro s a b
          by_cases e : s = i
          · rw [e, fup_eq]; exact ⟨fun _ => hx, fun q => absurd q (by omega)⟩
          · rw [fup_ne e]; exact ⟨fun q => (hE2 s a b).1 (by omega), fun q => (hE2 s a b).2 (by omega)⟩
        · omega
        · omega
      refine V_iload dL_areLives_176 rfl ?_
      refine V_iconst dL_areLives_178 ?_
      refine V_icmp_ge (tgt := 219) dL_areLives_179 (by decide) ⟨⟨by omega, by omega⟩, ⟨by omega, by omega⟩⟩ (fun c_61 => ?_) (fun c_61 => ?_)
      · have hlb := hlvb (selS P (-1)) k
        rw [← hlv] at hlb
        have hmb := hmxb (selS P (-1)) k hk.1
        rw [← hmo] at hmb
        refine V_iload dL_areLives_219 rfl ?_
        refine V_iload dL_areLives_221 rfl ?_
        refine V_icmp_le (tgt := 231) dL_areLives_223 (by decide) ⟨⟨by omega, by omega⟩, ⟨by omega, by omega⟩⟩ (fun c_62 => ?_) (fun c_62 => ?_)
        · refine V_iload dL_areLives_231 rfl ?_
          refine V_mask (L' := [some (.ref (c 0)), some (.ref (b 0)), some (.ref (b 1)), some (.ref (b 2)), some (.ref (b 3)), some (.ref (b 4)), some (.int (zI one)), some (.int (zI two)), some (.int (zI (pt P))), some (.int (zI (al P))), some (.int (zI 1)), none, some (.ref qe), some (.int (zI k)), some (.int (zI lv)), some (.ref qn), none, none, none]) [true, true, true, true, true, true, true, true, true, true, true, false, true, true, true, true, false, false, false] rfl ?_
          refine seg_233 mo ?_ ?_
          · omega
          · rw [mxv_s _ hk.1, ← hmo, ← hlv, if_neg (by omega)]
        · refine V_iload dL_areLives_226 rfl ?_
          refine V_goto (tgt := 233) dL_areLives_228 (by decide) ?_
          refine V_mask (L' := [some (.ref (c 0)), some (.ref (b 0)), some (.ref (b 1)), some (.ref (b 2)), some (.ref (b 3)), some (.ref (b 4)), some (.int (zI one)), some (.int (zI two)), some (.int (zI (pt P))), some (.int (zI (al P))), some (.int (zI 1)), none, some (.ref qe), some (.int (zI k)), some (.int (zI lv)), some (.ref qn), none, none, none]) [true, true, true, true, true, true, true, true, true, true, true, false, true, true, true, true, false, false, false] rfl ?_
          refine seg_233 lv ?_ ?_
          · omega
          · rw [mxv_s _ hk.1, ← hmo, ← hlv, if_pos (by omega)]
      · refine V_aload dL_areLives_182 rfl ?_
        refine V_iload dL_areLives_184 rfl ?_
        refine V_aload dL_areLives_186 rfl ?_
        refine V_iload dL_areLives_188 rfl ?_
        have hNi := hNf i hi.1 (by omega)
        have hNb := hlvb (selS P i) k
        rw [← hNi] at hNb
        refine V_iald (N := 4) (f := Nf) 5 rfl ⟨by omega, by omega⟩ (by decide) dL_areLives_190 ?_
        refine V_aload dL_areLives_191 rfl ?_
        refine V_iload dL_areLives_193 rfl ?_
        refine V_iald (N := 4) (f := E2) 6 rfl ⟨by omega, by omega⟩ (by decide) dL_areLives_195 ?_
        have hEi := (hE2 i hi.1 (by omega)).2 (Int.le_refl _)
        have hEb := hmxb (selS P i) k hk.1
        rw [← hEi] at hEb
        refine V_icmp_le (tgt := 207) dL_areLives_196 (by decide) ⟨⟨by omega, by omega⟩, ⟨by omega, by omega⟩⟩ (fun c_63 => ?_) (fun c_63 => ?_)
        · refine V_aload dL_areLives_207 rfl ?_
          refine V_iload dL_areLives_209 rfl ?_
          refine V_iald (N := 4) (f := E2) 6 rfl ⟨by omega, by omega⟩ (by decide) dL_areLives_211 ?_
          refine seg_212 (E2 i) ?_ ?_
          · omega
          · rw [mxv_s _ hk.1, ← hEi, ← hNi, if_neg (by omega)]
        · refine V_aload dL_areLives_199 rfl ?_
          refine V_iload dL_areLives_201 rfl ?_
          refine V_iald (N := 4) (f := Nf) 5 rfl ⟨by omega, by omega⟩ (by decide) dL_areLives_203 ?_
          refine V_goto (tgt := 212) dL_areLives_204 (by decide) ?_
          refine seg_212 (Nf i) ?_ ?_
          · omega
          · rw [mxv_s _ hk.1, ← hEi, ← hNi, if_pos (by omega)]
    have seg_176 : ∀ (i : Int) (lv : Int) (qn : Nat) (Nf : Int → Int) (E2 : Int → Int) (k2 : Nat) (n2 : Nat), (k < al P) → (0 ≤ i ∧ i ≤ 4) → (lv = lvN P (P 0 11) (P 0 12) (selS P (-1)) k) → (∀ s, 0 ≤ s → s < 4 → Nf s = lvN P (P 0 11) (P 0 12) (selS P s) k) → (∀ s, 0 ≤ s → s < 4 → (s < i → E2 s = mxv (lvN P (P 0 11) (P 0 12) (selS P s)) (k + 1)) ∧ (i ≤ s → E2 s = mxv (lvN P (P 0 11) (P 0 12) (selS P s)) k)) → (k2 ≤ k1 + 1) → (n2 ≤ n1 + 4) → V K tL_areLives k2 n2 (lW b τ ((qn, iE 0 4 Nf) :: ((qe, iE 0 4 E2) :: (Y ++ fm (cO en c κ1))))) [some (.ref (c 0)), some (.ref (b 0)), some (.ref (b 1)), some (.ref (b 2)), some (.ref (b 3)), some (.ref (b 4)), some (.int (zI one)), some (.int (zI two)), some (.int (zI (pt P))), some (.int (zI (al P))), some (.int (zI 1)), some (.int (zI mo)), some (.ref qe), some (.int (zI k)), some (.int (zI lv)), some (.ref qn), some (.int (zI i)), none, none] [] 176 := fun i lv qn Nf E2 k2 n2 hkn hi hlv hNf hE2 hk2 hn2 => loop_176 _ i lv qn Nf E2 k2 n2 rfl hkn hi hlv hNf hE2 hk2 hn2
    have loop_97 : ∀ (n0 : Nat) (j : Int) (lv : Int) (qn : Nat) (Nf : Int → Int) (k2 : Nat) (n2 : Nat), (al P - j).toNat = n0 → (k < al P) → (0 ≤ j ∧ j ≤ al P) → (lv = ct (fun i => decide (bt P (P 0 11) (P 0 12) i < k ∧ k ≤ enE P (P 0 11) (P 0 12) i)) j) → (∀ s, 0 ≤ s → s < 4 → Nf s = ct (fun i => selS P s i && decide (bt P (P 0 11) (P 0 12) i < k ∧ k ≤ enE P (P 0 11) (P 0 12) i)) j) → (k2 ≤ k1 + 1) → (n2 ≤ n1 + 4) → V K tL_areLives k2 n2 (lW b τ ((qn, iE 0 4 Nf) :: ((qe, iE 0 4 Ef) :: (Y ++ fm (cO en c κ1))))) [some (.ref (c 0)), some (.ref (b 0)), some (.ref (b 1)), some (.ref (b 2)), some (.ref (b 3)), some (.ref (b 4)), some (.int (zI one)), some (.int (zI two)), some (.int (zI (pt P))), some (.int (zI (al P))), some (.int (zI 1)), some (.int (zI mo)), some (.ref qe), some (.int (zI k)), some (.int (zI lv)), some (.ref qn), some (.int (zI j)), none, none] [] 97 := by
      intro n0
      induction n0 using Nat.strongRecOn with
      | _ n0 ih_97 =>
      intro j lv qn Nf k2 n2 hm_97 hkn hj hlv hNf hk2 hn2
      have seg_129 : ∀ (bb : Bool), (j < al P) → (bb = decide (bt P (P 0 11) (P 0 12) j < k ∧ k ≤ enE P (P 0 11) (P 0 12) j)) → V K tL_areLives k2 n2 (lW b τ ((qn, iE 0 4 Nf) :: ((qe, iE 0 4 Ef) :: (Y ++ fm (cO en c κ1))))) [some (.ref (c 0)), some (.ref (b 0)), some (.ref (b 1)), some (.ref (b 2)), some (.ref (b 3)), some (.ref (b 4)), some (.int (zI one)), some (.int (zI two)), some (.int (zI (pt P))), some (.int (zI (al P))), some (.int (zI 1)), some (.int (zI mo)), some (.ref qe), some (.int (zI k)), some (.int (zI lv)), some (.ref qn), some (.int (zI j)), none, none] [.int (zI (bz bb))] 129 := by
        intro bb hjn hbb
        have hcs := cell_st hM hj.1 hjn
        have seg_143 : ∀ (y : Int), (y = bz bb) → V K tL_areLives k2 n2 (lW b τ ((qn, iE 0 4 Nf) :: ((qe, iE 0 4 Ef) :: (Y ++ fm (cO en c κ1))))) [some (.ref (c 0)), some (.ref (b 0)), some (.ref (b 1)), some (.ref (b 2)), some (.ref (b 3)), some (.ref (b 4)), some (.int (zI one)), some (.int (zI two)), some (.int (zI (pt P))), some (.int (zI (al P))), some (.int (zI 1)), some (.int (zI mo)), some (.ref qe), some (.int (zI k)), none, some (.ref qn), some (.int (zI j)), some (.int (zI (bz bb))), none] [.int (zI y), .int (zI lv)] 143 := by
          intro y hy
          have seg_165 : ∀ (y2 : Int), (y2 = bz bb) → V K tL_areLives k2 n2 (lW b τ ((qn, iE 0 4 Nf) :: ((qe, iE 0 4 Ef) :: (Y ++ fm (cO en c κ1))))) [some (.ref (c 0)), some (.ref (b 0)), some (.ref (b 1)), some (.ref (b 2)), some (.ref (b 3)), some (.ref (b 4)), some (.int (zI one)), some (.int (zI two)), some (.int (zI (pt P))), some (.int (zI (al P))), some (.int (zI 1)), some (.int (zI mo)), some (.ref qe), some (.int (zI k)), some (.int (zI (lv + y))), some (.ref qn), some (.int (zI j)), none, none] [.int (zI y2), .int (zI (Nf (j / pt P))), .int (zI (j / pt P)), .ref qn] 165 := by
            intro y2 hy2
            refine V_iadd dL_areLives_165 ?_
            refine V_iast (N := 4) (f := Nf) 5 rfl ⟨by omega, by omega⟩ (by decide) dL_areLives_166 ?_
            show V K tL_areLives k2 n2 (lW b τ ((qn, iE 0 4 (fup Nf (j / pt P) ((Nf (j / pt P)) + y2))) :: ((qe, iE 0 4 Ef) :: (Y ++ fm (cO en c κ1))))) _ [] 167
            refine V_iinc (L' := [some (.ref (c 0)), some (.ref (b 0)), some (.ref (b 1)), some (.ref (b 2)), some (.ref (b 3)), some (.ref (b 4)), some (.int (zI one)), some (.int (zI two)), some (.int (zI (pt P))), some (.int (zI (al P))), some (.int (zI 1)), some (.int (zI mo)), some (.ref qe), some (.int (zI k)), some (.int (zI (lv + y))), some (.ref qn), some (.int (zI (j + 1))), none, none]) dL_areLives_167 (by decide) rfl rfl ?_
            refine V_goto (tgt := 97) dL_areLives_170 (by decide) ?_
            refine ih_97 _ (by omega) (j + 1) (lv + y) qn (fup Nf (j / pt P) ((Nf (j / pt P)) + y2)) k2 n2 rfl ?_ ?_ ?_ ?_ ?_ ?_
            · omega
            · omega
            · rw [ct_s _ hj.1, ← hlv, hy, hbb]
            · intro s a b
              rw [ct_s _ hj.1, ← hNf s a b]
              by_cases e : s = j / pt P
              · rw [e, fup_eq, hy2, hbb, show selS P (j / pt P) j = true from decide_eq_true (Or.inr rfl), Bool.true_and]
              · rw [fup_ne e, show selS P s j = false from decide_eq_false (by omega), Bool.false_and]; simp [bz]
            · omega
            · omega
          refine V_iadd dL_areLives_143 ?_
          refine V_istore (L' := [some (.ref (c 0)), some (.ref (b 0)), some (.ref (b 1)), some (.ref (b 2)), some (.ref (b 3)), some (.ref (b 4)), some (.int (zI one)), some (.int (zI two)), some (.int (zI (pt P))), some (.int (zI (al P))), some (.int (zI 1)), some (.int (zI mo)), some (.ref qe), some (.int (zI k)), some (.int (zI (lv + y))), some (.ref qn), some (.int (zI j)), some (.int (zI (bz bb))), none]) dL_areLives_144 (by decide) rfl ?_
          refine V_aload dL_areLives_146 rfl ?_
          refine V_iload dL_areLives_148 rfl ?_
          refine V_iload dL_areLives_150 rfl ?_
          refine V_idiv dL_areLives_152 ⟨⟨by omega, by omega⟩, ⟨by omega, by omega⟩, by omega, by omega⟩ ?_
          refine V_dup2 dL_areLives_153 rfl rfl ?_
          refine V_iald (N := 4) (f := Nf) 5 rfl ⟨by omega, by omega⟩ (by decide) dL_areLives_154 ?_
          refine V_iload dL_areLives_155 rfl ?_
          refine V_ifb_eq (tgt := 164) dL_areLives_157 (by decide) (fun c_64 => ?_) (fun c_64 => ?_)
          · refine V_iconst dL_areLives_164 ?_
            refine V_mask (L' := [some (.ref (c 0)), some (.ref (b 0)), some (.ref (b 1)), some (.ref (b 2)), some (.ref (b 3)), some (.ref (b 4)), some (.int (zI one)), some (.int (zI two)), some (.int (zI (pt P))), some (.int (zI (al P))), some (.int (zI 1)), some (.int (zI mo)), some (.ref qe), some (.int (zI k)), some (.int (zI (lv + y))), some (.ref qn), some (.int (zI j)), none, none]) [true, true, true, true, true, true, true, true, true, true, true, true, true, true, true, true, true, false, false] rfl ?_
            refine seg_165 0 ?_
            · rw [c_64]; rfl
          · refine V_iconst dL_areLives_160 ?_
            refine V_goto (tgt := 165) dL_areLives_161 (by decide) ?_
            refine V_mask (L' := [some (.ref (c 0)), some (.ref (b 0)), some (.ref (b 1)), some (.ref (b 2)), some (.ref (b 3)), some (.ref (b 4)), some (.int (zI one)), some (.int (zI two)), some (.int (zI (pt P))), some (.int (zI (al P))), some (.int (zI 1)), some (.int (zI mo)), some (.ref qe), some (.int (zI k)), some (.int (zI (lv + y))), some (.ref qn), some (.int (zI j)), none, none]) [true, true, true, true, true, true, true, true, true, true, true, true, true, true, true, true, true, false, false] rfl ?_
            refine seg_165 1 ?_
            · rw [c_64]; rfl
        refine V_istore (L' := [some (.ref (c 0)), some (.ref (b 0)), some (.ref (b 1)), some (.ref (b 2)), some (.ref (b 3)), some (.ref (b 4)), some (.int (zI one)), some (.int (zI two)), some (.int (zI (pt P))), some (.int (zI (al P))), some (.int (zI 1)), some (.int (zI mo)), some (.ref qe), some (.int (zI k)), some (.int (zI lv)), some (.ref qn), some (.int (zI j)), some (.int (zI (bz bb))), none]) dL_areLives_129 (by decide) rfl ?_
        refine V_iload dL_areLives_131 rfl ?_
        refine V_iload dL_areLives_133 rfl ?_
        refine V_ifb_eq (tgt := 142) dL_areLives_135 (by decide) (fun c_65 => ?_) (fun c_65 => ?_)
        · refine V_iconst dL_areLives_142 ?_
          refine V_mask (L' := [some (.ref (c 0)), some (.ref (b 0)), some (.ref (b 1)), some (.ref (b 2)), some (.ref (b 3)), some (.ref (b 4)), some (.int (zI one)), some (.int (zI two)), some (.int (zI (pt P))), some (.int (zI (al P))), some (.int (zI 1)), some (.int (zI mo)), some (.ref qe), some (.int (zI k)), none, some (.ref qn), some (.int (zI j)), some (.int (zI (bz bb))), none]) [true, true, true, true, true, true, true, true, true, true, true, true, true, true, false, true, true, true, false] rfl ?_
          refine seg_143 0 ?_
          · rw [c_65]; rfl
        · refine V_iconst dL_areLives_138 ?_
          refine V_goto (tgt := 143) dL_areLives_139 (by decide) ?_
          refine V_mask (L' := [some (.ref (c 0)), some (.ref (b 0)), some (.ref (b 1)), some (.ref (b 2)), some (.ref (b 3)), some (.ref (b 4)), some (.int (zI one)), some (.int (zI two)), some (.int (zI (pt P))), some (.int (zI (al P))), some (.int (zI 1)), some (.int (zI mo)), some (.ref qe), some (.int (zI k)), none, some (.ref qn), some (.int (zI j)), some (.int (zI (bz bb))), none]) [true, true, true, true, true, true, true, true, true, true, true, true, true, true, false, true, true, true, false] rfl ?_
          refine seg_143 1 ?_
          · rw [c_65]; rfl
      refine V_iload dL_areLives_97 rfl ?_
      refine V_iload dL_areLives_99 rfl ?_
      refine V_icmp_ge (tgt := 173) dL_areLives_101 (by decide) ⟨⟨by omega, by omega⟩, ⟨by omega, by omega⟩⟩ (fun c_66 => ?_) (fun c_66 => ?_)
      · refine V_iconst dL_areLives_173 ?_
        refine V_istore (L' := [some (.ref (c 0)), some (.ref (b 0)), some (.ref (b 1)), some (.ref (b 2)), some (.ref (b 3)), some (.ref (b 4)), some (.int (zI one)), some (.int (zI two)), some (.int (zI (pt P))), some (.int (zI (al P))), some (.int (zI 1)), some (.int (zI mo)), some (.ref qe), some (.int (zI k)), some (.int (zI lv)), some (.ref qn), some (.int (zI 0)), none, none]) dL_areLives_174 (by decide) rfl ?_
        refine seg_176 0 lv qn Nf Ef k2 n2 ?_ ?_ ?_ ?_ ?_ ?_ ?_
        · omega
        · omega
        · rw [hlv, show j = al P by omega]; exact lv_all hM
        · intro s a b
          rw [hNf s a b, show j = al P by omega]; rfl
        · intro s a b
          exact ⟨fun q => absurd q (by omega), fun _ => hEf s a b⟩
        · omega
        · omega
      · have kb := bt_b (P := P) (bw := P 0 11) (cw := P 0 12) hj.1 (show j < al P by omega)
        have ke := enE_b (P := P) (bw := P 0 11) (cw := P 0 12) hj.1 (show j < al P by omega)
        refine V_aload dL_areLives_104 rfl ?_
        refine V_iload dL_areLives_106 rfl ?_
        refine ll_3 ⟨by omega, by omega⟩ dL_areLives_108 ?_
        refine V_eqT (y := zI (bt P (P 0 11) (P 0 12) j)) (congrArg zI (hT j hj.1 (by omega))) ?_
        refine V_iload dL_areLives_109 rfl ?_
        refine V_icmp_ge (tgt := 128) dL_areLives_111 (by decide) ⟨⟨by omega, by omega⟩, ⟨by omega, by omega⟩⟩ (fun c_67 => ?_) (fun c_67 => ?_)
        · refine V_iconst dL_areLives_128 ?_
          refine seg_129 false ?_ ?_
          · omega
          · exact (decide_eq_false (by omega)).symm
        · refine V_iload dL_areLives_114 rfl ?_
          refine V_aload dL_areLives_116 rfl ?_
          refine V_iload dL_areLives_118 rfl ?_
          refine ll_4 ⟨by omega, by omega⟩ dL_areLives_120 ?_
          refine V_eqT (y := zI (enE P (P 0 11) (P 0 12) j)) (congrArg zI (hE4 j hj.1 (by omega))) ?_
          refine V_icmp_gt (tgt := 128) dL_areLives_121 (by decide) ⟨⟨by omega, by omega⟩, ⟨by omega, by omega⟩⟩ (fun c_68 => ?_) (fun c_68 => ?_)
          · refine V_iconst dL_areLives_128 ?_
            refine seg_129 false ?_ ?_
            · omega
            · exact (decide_eq_false (by omega)).symm
          · refine V_iconst dL_areLives_124 ?_
            refine V_goto (tgt := 129) dL_areLives_125 (by decide) ?_
            refine seg_129 true ?_ ?_
            · omega
            · exact (decide_eq_true (by omega)).symm
    have seg_97 : ∀ (j : Int) (lv : Int) (qn : Nat) (Nf : Int → Int) (k2 : Nat) (n2 : Nat), (k < al P) → (0 ≤ j ∧ j ≤ al P) → (lv = ct (fun i => decide (bt P (P 0 11) (P 0 12) i < k ∧ k ≤ enE P (P 0 11) (P 0 12) i)) j) → (∀ s, 0 ≤ s → s < 4 → Nf s = ct (fun i => selS P s i && decide (bt P (P 0 11) (P 0 12) i < k ∧ k ≤ enE P (P 0 11) (P 0 12) i)) j) → (k2 ≤ k1 + 1) → (n2 ≤ n1 + 4) → V K tL_areLives k2 n2 (lW b τ ((qn, iE 0 4 Nf) :: ((qe, iE 0 4 Ef) :: (Y ++ fm (cO en c κ1))))) [some (.ref (c 0)), some (.ref (b 0)), some (.ref (b 1)), some (.ref (b 2)), some (.ref (b 3)), some (.ref (b 4)), some (.int (zI one)), some (.int (zI two)), some (.int (zI (pt P))), some (.int (zI (al P))), some (.int (zI 1)), some (.int (zI mo)), some (.ref qe), some (.int (zI k)), some (.int (zI lv)), some (.ref qn), some (.int (zI j)), none, none] [] 97 := fun j lv qn Nf k2 n2 hkn hj hlv hNf hk2 hn2 => loop_97 _ j lv qn Nf k2 n2 rfl hkn hj hlv hNf hk2 hn2
    refine V_iload dL_areLives_74 rfl ?_
    refine V_iload dL_areLives_76 rfl ?_
    refine V_icmp_ge (tgt := 270) dL_areLives_78 (by decide) ⟨⟨by omega, by omega⟩, ⟨by omega, by omega⟩⟩ (fun c_69 => ?_) (fun c_69 => ?_)
    · refine V_iload dL_areLives_270 rfl ?_
      refine V_if_eq (tgt := 288) dL_areLives_272 (by decide) ⟨by decide, by decide⟩ (fun h => absurd h (by decide)) (fun _ => ?_)
      have hmb := hmxb (selS P (-1)) k hk.1
      have hmb2 := hmxb (selS P (-1)) (al P) hsm.2.1
      rw [← hmo] at hmb
      refine V_aload_n dL_areLives_275 rfl ?_
      refine V_callVB (As := []) (b := c 0) (ci := 9) (fs := cwF c κ1) (T := TX10) (N := 9) (lW_cw b τ ((qe, iE 0 4 Ef) :: Y) en c κ1) rfl (wr := (lW b τ ((qe, iE 0 4 Ef) :: Y))) (wc := fm (cO en c κ1)) rfl hK (MC.env EX.en (r_mostLive en c κ1 P ⟨hM, hC1⟩)) mokX10_mostLive w308 w309 w310 ⟨Nat.le_of_ble_eq_true rfl, Nat.le_of_ble_eq_true rfl⟩ rfl (Nat.le_of_ble_eq_true rfl) ⟨(by show k1 + 0 + 0 ≤ 1000; omega), (by show n1 + 0 + 0 ≤ 10000; omega)⟩ dL_areLives_276 (fun v w p_71 => ?_)
      obtain ⟨κ_72, rfl, rfl, q_73⟩ := p_71
      show V K tL_areLives k1 n1 (lW b τ ((qe, iE 0 4 Ef) :: (Y ++ fm (cO en c κ_72)))) _ [.int (zI (mxv (lvN P (P 0 11) (P 0 12) (selS P (-1))) (al P)))] 279
      refine V_iload dL_areLives_279 rfl ?_
      refine V_icmp_ne (tgt := 288) dL_areLives_281 (by decide) ⟨⟨by omega, by omega⟩, ⟨by omega, by omega⟩⟩ (fun c_74 => absurd (by rw [hmo, show k = al P by omega]) c_74) (fun _ => ?_)
      refine V_iconst dL_areLives_284 ?_
      refine V_goto (tgt := 289) dL_areLives_285 (by decide) ?_
      refine V_istore (L' := [some (.ref (c 0)), some (.ref (b 0)), some (.ref (b 1)), some (.ref (b 2)), some (.ref (b 3)), some (.ref (b 4)), some (.int (zI one)), some (.int (zI two)), some (.int (zI (pt P))), some (.int (zI (al P))), some (.int (zI 1)), some (.int (zI mo)), some (.ref qe), some (.int (zI k)), none, none, none, none, none]) dL_areLives_289 (by decide) rfl ?_
      refine V_iload dL_areLives_291 rfl ?_
      refine V_if_ne (tgt := 300) dL_areLives_293 (by decide) ⟨by omega, by omega⟩ (fun c_75 => ?_) (fun c_75 => ?_)
      · have htb : 0 ≤ two % al P ∧ two % al P < al P := ⟨Int.emod_nonneg _ (by omega), Int.emod_lt_of_pos _ (by omega)⟩
        refine V_iload dL_areLives_300 rfl ?_
        refine V_iload dL_areLives_302 rfl ?_
        refine V_iremN dL_areLives_304 ⟨⟨by omega, by omega⟩, ⟨by omega, by omega⟩, by omega, by omega⟩ ?_
        refine V_mask (L' := [some (.ref (c 0)), some (.ref (b 0)), some (.ref (b 1)), some (.ref (b 2)), some (.ref (b 3)), some (.ref (b 4)), some (.int (zI one)), some (.int (zI two)), some (.int (zI (pt P))), some (.int (zI (al P))), some (.int (zI 1)), none, some (.ref qe), none, none, none, none, none, none]) [true, true, true, true, true, true, true, true, true, true, true, false, true, false, false, false, false, false, false] rfl ?_
        refine seg_305 (two % (al P)) qe Ef κ_72 k1 n1 ?_ ?_ ?_ ?_ ?_
        · omega
        · intro s a b
          rw [hEf s a b, show k = al P by omega]
        · exact q_73
        · omega
        · omega
      · refine V_iconst dL_areLives_296 ?_
        refine V_goto (tgt := 305) dL_areLives_297 (by decide) ?_
        refine V_mask (L' := [some (.ref (c 0)), some (.ref (b 0)), some (.ref (b 1)), some (.ref (b 2)), some (.ref (b 3)), some (.ref (b 4)), some (.int (zI one)), some (.int (zI two)), some (.int (zI (pt P))), some (.int (zI (al P))), some (.int (zI 1)), none, some (.ref qe), none, none, none, none, none, none]) [true, true, true, true, true, true, true, true, true, true, true, false, true, false, false, false, false, false, false] rfl ?_
        refine seg_305 0 qe Ef κ_72 k1 n1 ?_ ?_ ?_ ?_ ?_
        · omega
        · intro s a b
          rw [hEf s a b, show k = al P by omega]
        · exact q_73
        · omega
        · omega
    · refine V_iload dL_areLives_81 rfl ?_
      refine V_if_eq (tgt := 270) dL_areLives_83 (by decide) ⟨by decide, by decide⟩ (fun h => absurd h (by decide)) (fun _ => ?_)
      refine V_iconst dL_areLives_86 ?_
      refine V_istore (L' := [some (.ref (c 0)), some (.ref (b 0)), some (.ref (b 1)), some (.ref (b 2)), some (.ref (b 3)), some (.ref (b 4)), some (.int (zI one)), some (.int (zI two)), some (.int (zI (pt P))), some (.int (zI (al P))), some (.int (zI 1)), some (.int (zI mo)), some (.ref qe), some (.int (zI k)), some (.int (zI 0)), none, none, none, none]) dL_areLives_87 (by decide) rfl ?_
      refine V_iconst dL_areLives_89 ?_
      refine V_newl (N := 4) w137 rfl (by decide) ⟨(by show k1 + 0 + 1 ≤ 1000; omega), (by show n1 + 0 + 4 ≤ 10000; omega)⟩ dL_areLives_90 (fun qn => ?_)
      show V K tL_areLives (k1 + 1) (n1 + 4) (lW b τ ((qn, iE 0 4 (fun _ => 0)) :: ((qe, iE 0 4 Ef) :: (Y ++ fm (cO en c κ1))))) _ [.ref qn] 92
      refine V_astore (L' := [some (.ref (c 0)), some (.ref (b 0)), some (.ref (b 1)), some (.ref (b 2)), some (.ref (b 3)), some (.ref (b 4)), some (.int (zI one)), some (.int (zI two)), some (.int (zI (pt P))), some (.int (zI (al P))), some (.int (zI 1)), some (.int (zI mo)), some (.ref qe), some (.int (zI k)), some (.int (zI 0)), some (.ref qn), none, none, none]) dL_areLives_92 (by decide) rfl ?_
      refine V_iconst dL_areLives_94 ?_
      refine V_istore (L' := [some (.ref (c 0)), some (.ref (b 0)), some (.ref (b 1)), some (.ref (b 2)), some (.ref (b 3)), some (.ref (b 4)), some (.int (zI one)), some (.int (zI two)), some (.int (zI (pt P))), some (.int (zI (al P))), some (.int (zI 1)), some (.int (zI mo)), some (.ref qe), some (.int (zI k)), some (.int (zI 0)), some (.ref qn), some (.int (zI 0)), none, none]) dL_areLives_95 (by decide) rfl ?_
      refine seg_97 0 0 qn (fun _ => 0) (k1 + 1) (n1 + 4) ?_ ?_ ?_ ?_ ?_ ?_
      · omega
      · omega
      · rw [ct_0 _ (by omega)]
      · intro s a b
        rw [ct_0 _ (by omega)]
      · omega
      · omega
  have seg_74 : ∀ (k : Int) (mo : Int) (qe : Nat) (Ef : Int → Int) (κ1 : St) (k1 : Nat) (n1 : Nat), (0 ≤ k ∧ k ≤ al P) → (mo = mxv (lvN P (P 0 11) (P 0 12) (selS P (-1))) k) → (∀ s, 0 ≤ s → s < 4 → Ef s = mxv (lvN P (P 0 11) (P 0 12) (selS P s)) k) → (CWP P κ1) → (k1 ≤ 20 + 2 * k.toNat) → (n1 ≤ 100 + 10 * k.toNat) → V K tL_areLives k1 n1 (lW b τ ((qe, iE 0 4 Ef) :: (Y ++ fm (cO en c κ1)))) [some (.ref (c 0)), some (.ref (b 0)), some (.ref (b 1)), some (.ref (b 2)), some (.ref (b 3)), some (.ref (b 4)), some (.int (zI one)), some (.int (zI two)), some (.int (zI (pt P))), some (.int (zI (al P))), some (.int (zI 1)), some (.int (zI mo)), some (.ref qe), some (.int (zI k)), none, none, none, none, none] [] 74 := fun k mo qe Ef κ1 k1 n1 hk hmo hEf hC1 hk1 hn1 => loop_74 _ k mo qe Ef κ1 k1 n1 rfl hk hmo hEf hC1 hk1 hn1
  refine V_aload_n dL_areLives_0 rfl ?_
  refine V_callSF (As := [.ref (b 0)]) hK (q_points (EX.stb en) b τ (Y ++ fm (cO en c κ)) P ⟨hM, hL⟩) mokL_points w871 w872 ⟨Nat.le_of_ble_eq_true rfl, Nat.le_of_ble_eq_true rfl⟩ rfl (Nat.le_of_ble_eq_true rfl) ⟨Nat.le_of_ble_eq_true rfl, Nat.le_of_ble_eq_true rfl⟩ dL_areLives_1 (fun v w p_77 => ?_)
  obtain ⟨rfl, rfl⟩ := p_77
  show V K tL_areLives 0 0 (lW b τ (Y ++ fm (cO en c κ))) _ [.int (zI (pt P))] 4
  refine V_istore (L' := [some (.ref (c 0)), some (.ref (b 0)), some (.ref (b 1)), some (.ref (b 2)), some (.ref (b 3)), some (.ref (b 4)), some (.int (zI one)), some (.int (zI two)), some (.int (zI (pt P))), none, none, none, none, none, none, none, none, none, none]) dL_areLives_4 (by decide) rfl ?_
  refine V_aload_n dL_areLives_6 rfl ?_
  refine V_iconst dL_areLives_7 ?_
  refine ll_0 ⟨by omega, by omega⟩ dL_areLives_8 ?_
  refine V_eqT (y := zI (P 0 2)) (congrArg zI (LR.g2 hL)) ?_
  refine V_iload dL_areLives_9 rfl ?_
  refine V_imul dL_areLives_11 ?_
  refine V_eqT (y := zI (al P)) (rfl) ?_
  refine V_istore (L' := [some (.ref (c 0)), some (.ref (b 0)), some (.ref (b 1)), some (.ref (b 2)), some (.ref (b 3)), some (.ref (b 4)), some (.int (zI one)), some (.int (zI two)), some (.int (zI (pt P))), some (.int (zI (al P))), none, none, none, none, none, none, none, none, none]) dL_areLives_12 (by decide) rfl ?_
  refine V_aload_n dL_areLives_14 rfl ?_
  refine V_callVB (As := []) (b := c 0) (ci := 9) (fs := cwF c κ) (T := TX10) (N := 9) (lW_cw b τ Y en c κ) rfl (wr := (lW b τ Y)) (wc := fm (cO en c κ)) rfl hK (MC.env EX.en (r_steps en c κ P ⟨hM, hC⟩)) mokX10_steps w296 w297 w298 ⟨Nat.le_of_ble_eq_true rfl, Nat.le_of_ble_eq_true rfl⟩ rfl (Nat.le_of_ble_eq_true rfl) ⟨Nat.le_of_ble_eq_true rfl, Nat.le_of_ble_eq_true rfl⟩ dL_areLives_15 (fun v w p_78 => ?_)
  obtain ⟨κ_79, rfl, rfl, q_80⟩ := p_78
  show V K tL_areLives 0 0 (lW b τ (Y ++ fm (cO en c κ_79))) _ [.int (zI (al P))] 18
  refine V_iload dL_areLives_18 rfl ?_
  refine V_icmp_ne (tgt := 60) dL_areLives_20 (by decide) ⟨⟨by omega, by omega⟩, ⟨by omega, by omega⟩⟩ (fun c_81 => absurd (rfl) c_81) (fun _ => ?_)
  refine V_aload_n dL_areLives_23 rfl ?_
  refine V_callVB (As := []) (b := c 0) (ci := 9) (fs := cwF c κ_79) (T := TX10) (N := 9) (lW_cw b τ Y en c κ_79) rfl (wr := (lW b τ Y)) (wc := fm (cO en c κ_79)) rfl hK (MC.env EX.en (r_isAllowed en c κ_79 P ⟨hM, q_80⟩)) mokX10_isAllowed w261 w262 w263 ⟨Nat.le_of_ble_eq_true rfl, Nat.le_of_ble_eq_true rfl⟩ rfl (Nat.le_of_ble_eq_true rfl) ⟨Nat.le_of_ble_eq_true rfl, Nat.le_of_ble_eq_true rfl⟩ dL_areLives_24 (fun v w p_82 => ?_)
  obtain ⟨κ_83, rfl, rfl, q_84⟩ := p_82
  show V K tL_areLives 0 0 (lW b τ (Y ++ fm (cO en c κ_83))) _ [.int (zI (bz (dcd (alw P (P 0 11) (P 0 12)))))] 27
  refine V_aload_n dL_areLives_27 rfl ?_
  refine V_aload_n dL_areLives_28 rfl ?_
  refine V_aload_n dL_areLives_29 rfl ?_
  refine V_aload dL_areLives_30 rfl ?_
  refine V_callSF (As := [.ref (b 0), .ref (b 1), .ref (b 2), .ref (b 3)]) hK (q_isAllowed (EX.stb en) b τ (Y ++ fm (cO en c κ_83)) P ⟨hM, hL, hT⟩) mokL_isAllowed w886 w887 ⟨Nat.le_of_ble_eq_true rfl, Nat.le_of_ble_eq_true rfl⟩ rfl (Nat.le_of_ble_eq_true rfl) ⟨Nat.le_of_ble_eq_true rfl, Nat.le_of_ble_eq_true rfl⟩ dL_areLives_32 (fun v w p_85 => ?_)
  obtain ⟨rfl, rfl⟩ := p_85
  show V K tL_areLives 0 0 (lW b τ (Y ++ fm (cO en c κ_83))) _ [.int (zI (bz (dcd (alw P (P 0 11) (P 0 12))))), .int (zI (bz (dcd (alw P (P 0 11) (P 0 12)))))] 35
  refine V_icmp_ne (tgt := 60) dL_areLives_35 (by decide) ⟨bz_iR _, bz_iR _⟩ (fun c_86 => absurd (rfl) c_86) (fun _ => ?_)
  refine V_aload_n dL_areLives_38 rfl ?_
  refine V_bipush dL_areLives_39 (by decide) ?_
  refine V_iload dL_areLives_41 rfl ?_
  refine V_iconst dL_areLives_43 ?_
  refine V_iconst dL_areLives_44 ?_
  refine V_iconst dL_areLives_45 ?_
  refine V_iconst dL_areLives_46 ?_
  refine V_callSBH (As := [.ref (c 0), .int (zI 15), .int (zI (al P)), .int (zI 0), .int (zI 0), .int (zI 0), .int (zI 0)]) (wr := (lW b τ Y)) (wc := fm (cO en c κ_83)) rfl hK (d_15 en c κ_83 (al P) 0 0 0 0 P ⟨hM, q_84, ⟨by omega, by omega⟩⟩) mokL_does w507 w508 ⟨Nat.le_of_ble_eq_true rfl, Nat.le_of_ble_eq_true rfl⟩ rfl (Nat.le_of_ble_eq_true rfl) ⟨Nat.le_of_ble_eq_true rfl, Nat.le_of_ble_eq_true rfl⟩ dL_areLives_47 (fun v w p_87 => ?_)
  obtain ⟨κ_88, rfl, rfl, q_89⟩ := p_87
  show V K tL_areLives 8 50 (lW b τ (Y ++ fm (cO en c κ_88))) _ [.int (zI (dvl (-3000) 0 0 (sp_liveAt P (al P))))] 50
  have e_92 : sp_liveAt P (al P) = (1, 0, P) := gd_f (fun h => by have := h.2; omega)
  rw [e_92] at q_89
  refine V_eqT (y := zI (-3000)) (by rw [e_92]; rfl) ?_
  show V K tL_areLives 8 50 (lW b τ (Y ++ fm (cO en c κ_88))) _ [.int (zI (-3000))] 50
  refine V_sipush dL_areLives_50 (by decide) ?_
  refine V_icmp_ne (tgt := 60) dL_areLives_53 (by decide) ⟨⟨by decide, by decide⟩, ⟨by decide, by decide⟩⟩ (fun h => absurd h (by decide)) (fun _ => ?_)
  refine V_iconst dL_areLives_56 ?_
  refine V_goto (tgt := 61) dL_areLives_57 (by decide) ?_
  refine V_istore (L' := [some (.ref (c 0)), some (.ref (b 0)), some (.ref (b 1)), some (.ref (b 2)), some (.ref (b 3)), some (.ref (b 4)), some (.int (zI one)), some (.int (zI two)), some (.int (zI (pt P))), some (.int (zI (al P))), some (.int (zI 1)), none, none, none, none, none, none, none, none]) dL_areLives_61 (by decide) rfl ?_
  refine V_iconst dL_areLives_63 ?_
  refine V_istore (L' := [some (.ref (c 0)), some (.ref (b 0)), some (.ref (b 1)), some (.ref (b 2)), some (.ref (b 3)), some (.ref (b 4)), some (.int (zI one)), some (.int (zI two)), some (.int (zI (pt P))), some (.int (zI (al P))), some (.int (zI 1)), some (.int (zI 0)), none, none, none, none, none, none, none]) dL_areLives_64 (by decide) rfl ?_
  refine V_iconst dL_areLives_66 ?_
  refine V_newl (N := 4) w137 rfl (by decide) ⟨Nat.le_of_ble_eq_true rfl, Nat.le_of_ble_eq_true rfl⟩ dL_areLives_67 (fun qe => ?_)
  show V K tL_areLives 9 54 (lW b τ ((qe, iE 0 4 (fun _ => 0)) :: (Y ++ fm (cO en c κ_88)))) _ [.ref qe] 69
  refine V_astore (L' := [some (.ref (c 0)), some (.ref (b 0)), some (.ref (b 1)), some (.ref (b 2)), some (.ref (b 3)), some (.ref (b 4)), some (.int (zI one)), some (.int (zI two)), some (.int (zI (pt P))), some (.int (zI (al P))), some (.int (zI 1)), some (.int (zI 0)), some (.ref qe), none, none, none, none, none, none]) dL_areLives_69 (by decide) rfl ?_
  refine V_iconst dL_areLives_71 ?_
  refine V_istore (L' := [some (.ref (c 0)), some (.ref (b 0)), some (.ref (b 1)), some (.ref (b 2)), some (.ref (b 3)), some (.ref (b 4)), some (.int (zI one)), some (.int (zI two)), some (.int (zI (pt P))), some (.int (zI (al P))), some (.int (zI 1)), some (.int (zI 0)), some (.ref qe), some (.int (zI 0)), none, none, none, none, none]) dL_areLives_72 (by decide) rfl ?_
  refine seg_74 0 0 qe (fun _ => 0) κ_88 9 54 ?_ ?_ ?_ ?_ ?_ ?_
  · omega
  · rfl
  · intro s a b; rfl
  · exact q_89
  · omega
  · omega

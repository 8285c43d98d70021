/-! the class: public methods, that return or throw -/
def CWP (P κ : St) : Prop := CI P κ ∧ WR P κ ∧ WB κ 4
theorem CWP.fr {P κ κ2 : St} {ks : List Nat} (h : CWP P κ) (hf : fr ks κ κ2) (hs : ks.all (fun k => decide ((16 ≤ k ∧ k ≠ 49 ∧ k ≠ 80) ∧ (k < 39 ∨ 43 < k))) = true) : CWP P κ2 := by
  have h1 : ks.all (fun k => decide (16 ≤ k ∧ k ≠ 49 ∧ k ≠ 80)) = true := List.all_eq_true.mpr fun k hk => by
    have := List.all_eq_true.mp hs k hk
    simp only [decide_eq_true_iff] at this ⊢
    exact this.1
  have h2 : ks.all (fun k => decide (k < 39 ∨ 43 < k)) = true := List.all_eq_true.mpr fun k hk => by
    have := List.all_eq_true.mp hs k hk
    simp only [decide_eq_true_iff] at this ⊢
    exact this.2
  exact ⟨h.1.g hf h1, h.2.1.fr hf h2, h.2.2.fr hf h2⟩
theorem pubC {en c : Nat → Nat} {sp : SP} {r a : Int} {P' κX : St} (h : sp = (0, r, P')) (hv : some (Value.int (zI a)) = some (.int (zI r))) (hC : CWP P' κX) : ∃ κ2 : St, some (Value.int (zI a)) = some (.int (zI (sp.2.1))) ∧ fm (cO en c κX) = fm (cO en c κ2) ∧ (sp.1 = 0) ∧ (CWP sp.2.2 κ2) := ⟨κX, by rw [h]; exact hv, rfl, by rw [h], by rw [h]; exact hC⟩
/-- thrown: the world stays the program's; the number of the exception by its class -/
def XP1 (en c : Nat → Nat) (sp : SP) (P : St) (L : List (Int × String)) : String → vWd → Prop := fun X w => ∃ κ2 : St, w = fm (cO en c κ2) ∧ CWP P κ2 ∧ sp.2.2 = P ∧ (sp.1, X) ∈ L
theorem XP1.of {en c : Nat → Nat} {sp : SP} {P κ : St} {L : List (Int × String)} {n : Int} {X cls : String} {w : vWd} (h : sp = (n, 0, P)) (hX : X = cls) (hL : (n, cls) ∈ L) (hw : w = fm (cO en c κ)) (hc : CWP P κ) : XP1 en c sp P L X w := ⟨κ, hw, hc, by rw [h], by rw [h, hX]; exact hL⟩
theorem lv_all {P : St} (hM : MI P) {bw cw t : Int} : ct (fun k => decide (bt P bw cw k < t ∧ t ≤ enE P bw cw k)) (al P) = lvN P bw cw (selS P (-1)) t := by
  unfold lvN
  exact ct_congr _ hM.als.1 (fun j _ _ => by unfold selS; rw [decide_eq_true (Or.inl (by decide)), Bool.true_and])
theorem ml_all {P : St} (hM : MI P) {bw cw : Int} : mxv (lvE P bw cw (selR 0 (al P))) (al P) = mxv (lvN P bw cw (selS P (-1))) (al P) :=
  mxv_congr _ hM.als.1 (fun t _ _ => by
    show lvN P bw cw (selR 0 (al P)) t = _
    unfold lvN
    exact ct_congr _ hM.als.1 (fun j a b => by unfold selS selR; rw [decide_eq_true (Or.inl (by decide)), decide_eq_true ⟨a, b⟩]))
theorem ml_of {P : St} (hM : MI P) {bw cw s : Int} (hs : 0 ≤ s) : mxv (lvE P bw cw (selR (s * pt P) ((s + 1) * pt P))) (al P) = mxv (lvN P bw cw (selS P s)) (al P) :=
  mxv_congr _ hM.als.1 (fun t _ _ => by
    show lvN P bw cw (selR (s * pt P) ((s + 1) * pt P)) t = _
    unfold lvN
    refine ct_congr _ hM.als.1 (fun j a b => ?_)
    have hq := hM.pts
    have e : selR (s * pt P) ((s + 1) * pt P) j = selS P s j := by
      unfold selR selS
      refine decide_eq_decide.mpr ⟨fun z => Or.inr ?_, fun z => ?_⟩
      · have h1 : s ≤ j / pt P := (Int.le_ediv_iff_mul_le (by omega)).mpr z.1
        have h2 : j / pt P < s + 1 := (Int.ediv_lt_iff_lt_mul (by omega)).mpr z.2
        omega
      · have h3 : j / pt P = s := by omega
        exact ⟨(Int.le_ediv_iff_mul_le (by omega)).mp (by omega), (Int.ediv_lt_iff_lt_mul (by omega)).mp (by omega)⟩
    rw [e])
abbrev IOBs : String := "java/lang/IndexOutOfBoundsException"
abbrev IAEs : String := "java/lang/IllegalArgumentException"
abbrev ISEs : String := "java/lang/IllegalStateException"
set_option maxRecDepth 100000 in
set_option maxHeartbeats 4000000 in
theorem k_steps (en : Nat → Nat) (c : Nat → Nat) (κ : St) (P : St) (hp : MI P ∧ CI P κ ∧ WR P κ ∧ WB κ 4) : MC (EN en) yX10_steps sX10_steps [.ref (c 0)] (fm (cO en c κ)) (fun v w => ∃ κ2 : St, v = some (.int (zI ((sp_steps P).2.1))) ∧ w = fm (cO en c κ2) ∧ ((sp_steps P).1 = 0) ∧ (CWP (sp_steps P).2.2 κ2)) := by
  refine MC.of (EN.stb en) [some (.ref (c 0))] 0 rfl rfl rfl (by simp [Value.category]) (Nat.le_of_ble_eq_true rfl) (fun K hK hR => ?_)
  obtain ⟨hM, hC, hp⟩ := hp
  have hN4 := hM.2.2.1
  obtain ⟨hW, hW4⟩ := hp
  have hCW : CWP P κ := ⟨hC, hW, hW4⟩
  refine V_aload_n dX10_steps_0 rfl ?_
  refine VO_getf (C0 := RX10) (T := TX10) (N := 9) (ci := 9) (fs := cwF c κ) 0 0 iwX10 (by decide) w233 (Or.inl rfl) rfl (at_cw) rfl dX10_steps_1 ?_
  refine VO_callVF (As := []) (b := c 1) (i := 1) (ci := 4) (fs := prF c κ) (T := TX5) (N := 4) (at_pr) rfl hK (k_w5_cells en c κ P ⟨hM, hC⟩) mokX5_cells w300 w301 w302 ⟨Nat.le_of_ble_eq_true rfl, Nat.le_of_ble_eq_true rfl⟩ rfl (Nat.le_of_ble_eq_true rfl) ⟨Nat.le_of_ble_eq_true rfl, Nat.le_of_ble_eq_true rfl⟩ dX10_steps_4 (fun v w p_1 => ?_)
  obtain ⟨rfl, rfl⟩ := p_1
  show V K sX10_steps 0 0 (fm (cO en c κ)) [some (.ref (c 0))] [.int (zI (al P))] 7
  refine V_iret hR rfl (Nat.le_of_ble_eq_true rfl) (Nat.le_of_ble_eq_true rfl) dX10_steps_7 ?_
  exact pubC (sp := sp_steps P) rfl rfl hCW
set_option maxRecDepth 100000 in
set_option maxHeartbeats 4000000 in
theorem k_isAllowed (en : Nat → Nat) (c : Nat → Nat) (κ : St) (P : St) (hp : MI P ∧ CI P κ ∧ WR P κ ∧ WB κ 4) : MC (EN en) yX10_isAllowed sX10_isAllowed [.ref (c 0)] (fm (cO en c κ)) (fun v w => ∃ κ2 : St, v = some (.int (zI ((sp_isAllowed P).2.1))) ∧ w = fm (cO en c κ2) ∧ ((sp_isAllowed P).1 = 0) ∧ (CWP (sp_isAllowed P).2.2 κ2)) := by
  refine MC.of (EN.stb en) [some (.ref (c 0))] 0 rfl rfl rfl (by simp [Value.category]) (Nat.le_of_ble_eq_true rfl) (fun K hK hR => ?_)
  obtain ⟨hM, hC, hp⟩ := hp
  have hN4 := hM.2.2.1
  obtain ⟨hW, hW4⟩ := hp
  have hCW : CWP P κ := ⟨hC, hW, hW4⟩
  refine V_aload_n dX10_isAllowed_0 rfl ?_
  refine VO_getf (C0 := RX10) (T := TX10) (N := 9) (ci := 9) (fs := cwF c κ) 0 0 iwX10 (by decide) w233 (Or.inl rfl) rfl (at_cw) rfl dX10_isAllowed_1 ?_
  refine V_aload_n dX10_isAllowed_4 rfl ?_
  refine VO_getf (C0 := RX10) (T := TX10) (N := 9) (ci := 9) (fs := cwF c κ) 0 7 iwX10 (by decide) w240 (Or.inl rfl) rfl (at_cw) rfl dX10_isAllowed_5 ?_
  refine V_eqT (y := zI (P 0 11)) (congrArg zI (congrFun ((hC).1 0 (by decide) (by decide)) _)) ?_
  refine V_aload_n dX10_isAllowed_8 rfl ?_
  refine VO_getf (C0 := RX10) (T := TX10) (N := 9) (ci := 9) (fs := cwF c κ) 0 8 iwX10 (by decide) w241 (Or.inl rfl) rfl (at_cw) rfl dX10_isAllowed_9 ?_
  refine V_eqT (y := zI (P 0 12)) (congrArg zI (congrFun ((hC).1 0 (by decide) (by decide)) _)) ?_
  refine VO_callVF (As := [.int (zI (P 0 11)), .int (zI (P 0 12))]) (b := c 1) (i := 1) (ci := 4) (fs := prF c κ) (T := TX5) (N := 4) (at_pr) rfl hK (k_w5_allows en c κ (P 0 11) (P 0 12) P ⟨hM, hC, hM.2.2.2.1, hM.2.2.2.2.1⟩) mokX5_allows w265 w266 w267 ⟨Nat.le_of_ble_eq_true rfl, Nat.le_of_ble_eq_true rfl⟩ rfl (Nat.le_of_ble_eq_true rfl) ⟨Nat.le_of_ble_eq_true rfl, Nat.le_of_ble_eq_true rfl⟩ dX10_isAllowed_12 (fun v w p_1 => ?_)
  obtain ⟨rfl, rfl⟩ := p_1
  show V K sX10_isAllowed 0 0 (fm (cO en c κ)) [some (.ref (c 0))] [.int (zI (bz (dcd (alw P (P 0 11) (P 0 12)))))] 15
  refine V_zret hR rfl (Nat.le_of_ble_eq_true rfl) (Nat.le_of_ble_eq_true rfl) dX10_isAllowed_15 ?_
  exact pubC (sp := sp_isAllowed P) rfl rfl hCW
set_option maxRecDepth 100000 in
set_option maxHeartbeats 4000000 in
theorem k_stepOf (en : Nat → Nat) (c : Nat → Nat) (κ : St) (s : Int) (i : Int) (j : Int) (P : St) (hp : MI P ∧ CI P κ ∧ iR s ∧ iR i ∧ iR j ∧ WR P κ ∧ WB κ 4) : MCX (EN en) yX10_stepOf sX10_stepOf [.ref (c 0), .int (zI s), .int (zI i), .int (zI j)] (fm (cO en c κ)) (fun v w => ∃ κ2 : St, v = some (.int (zI ((sp_stepOf P s i j).2.1))) ∧ w = fm (cO en c κ2) ∧ ((sp_stepOf P s i j).1 = 0) ∧ (CWP (sp_stepOf P s i j).2.2 κ2)) (XP1 en c (sp_stepOf P s i j) P [(1, IOBs)]) := by
  refine MCX.of (EN.stb en) [some (.ref (c 0)), some (.int (zI s)), some (.int (zI i)), some (.int (zI j)), none] 1 rfl rfl rfl (by simp [Value.category]) (Nat.le_of_ble_eq_true rfl) (fun K hK hR hX => ?_)
  obtain ⟨hM, hC, hp⟩ := hp
  have hN4 := hM.2.2.1
  obtain ⟨hr_s, hr_i, hr_j, hW, hW4⟩ := hp
  have hCW : CWP P κ := ⟨hC, hW, hW4⟩
  unfold iR at hr_s
  unfold iR at hr_i
  unfold iR at hr_j
  refine V_aload_n dX10_stepOf_0 rfl ?_
  refine V_iload_n dX10_stepOf_1 rfl ?_
  refine V_iload_n dX10_stepOf_2 rfl ?_
  refine V_iload_n dX10_stepOf_3 rfl ?_
  refine VO_callXVF (As := [.int (zI s), .int (zI i), .int (zI j)]) (b := c 0) (i := 0) (ci := 9) (fs := cwF c κ) (T := TX10) (N := 9) (at_cw) rfl hK (k_requireCell en c κ s i j P ⟨hM, hC, hr_s, hr_i, hr_j⟩) mokX10_requireCell w830 w832 wps1_4 ⟨Nat.le_of_ble_eq_true rfl, Nat.le_of_ble_eq_true rfl⟩ rfl (Nat.le_of_ble_eq_true rfl) ⟨Nat.le_of_ble_eq_true rfl, Nat.le_of_ble_eq_true rfl⟩ dX10_stepOf_4 hX (fun X w h => XP1.of (gd_f h.2.2) h.1 (by decide) h.2.1 hCW) (Nat.le_of_ble_eq_true rfl) (Nat.le_of_ble_eq_true rfl) (fun v w p_1 => ?_)
  obtain ⟨rfl, rfl, q_2⟩ := p_1
  show V K sX10_stepOf 2 12 (fm (cO en c κ)) [some (.ref (c 0)), some (.int (zI s)), some (.int (zI i)), some (.int (zI j)), none] [.int (zI (cc P s i j))] 7
  refine V_istore (L' := [some (.ref (c 0)), some (.int (zI s)), some (.int (zI i)), some (.int (zI j)), some (.int (zI (cc P s i j)))]) dX10_stepOf_7 (by decide) rfl ?_
  refine V_aload_n dX10_stepOf_9 rfl ?_
  have hcc := cc_b hM q_2
  have hal := hM.als
  refine VO_callVF (As := []) (b := c 0) (i := 0) (ci := 9) (fs := cwF c κ) (T := TX10) (N := 9) (at_cw) rfl hK (k_arranged en c κ P ⟨hM, hC⟩) mokX10_arranged w312 w314 wps0_0 ⟨Nat.le_of_ble_eq_true rfl, Nat.le_of_ble_eq_true rfl⟩ rfl (Nat.le_of_ble_eq_true rfl) ⟨Nat.le_of_ble_eq_true rfl, Nat.le_of_ble_eq_true rfl⟩ dX10_stepOf_10 (fun v w p_3 => ?_)
  obtain ⟨κ_4, rfl, rfl, q_5, q_6, q_7⟩ := p_3
  show V K sX10_stepOf 2 12 (fm (cO en c κ_4)) [some (.ref (c 0)), some (.int (zI s)), some (.int (zI i)), some (.int (zI j)), some (.int (zI (cc P s i j)))] [.ref (c 2)] 13
  refine VO_getN (C0 := RX9) (T := TX9) (N := 10) (ci := 8) (fs := wkF c κ_4) 2 3 iwX9 (by decide) hK wn107 rfl (at_wk) rfl dX10_stepOf_13 ?_
  refine V_iload dX10_stepOf_16 rfl ?_
  refine VO_iald 6 at_wk_birth ⟨by omega, by omega⟩ (by decide) dX10_stepOf_18 ?_
  refine V_eqT (y := zI (bt P (P 0 11) (P 0 12) (cc P s i j))) (congrArg zI (q_6.2.1 _ hcc.1.1 hcc.1.2).2.1) ?_
  refine V_iret hR rfl (Nat.le_of_ble_eq_true rfl) (Nat.le_of_ble_eq_true rfl) dX10_stepOf_19 ?_
  exact pubC (sp := sp_stepOf P s i j) (gd_t q_2) rfl (hCW.fr q_7 (by decide))
set_option maxRecDepth 100000 in
set_option maxHeartbeats 4000000 in
theorem k_endOf (en : Nat → Nat) (c : Nat → Nat) (κ : St) (s : Int) (i : Int) (j : Int) (P : St) (hp : MI P ∧ CI P κ ∧ iR s ∧ iR i ∧ iR j ∧ WR P κ ∧ WB κ 4) : MCX (EN en) yX10_endOf sX10_endOf [.ref (c 0), .int (zI s), .int (zI i), .int (zI j)] (fm (cO en c κ)) (fun v w => ∃ κ2 : St, v = some (.int (zI ((sp_endOf P s i j).2.1))) ∧ w = fm (cO en c κ2) ∧ ((sp_endOf P s i j).1 = 0) ∧ (CWP (sp_endOf P s i j).2.2 κ2)) (XP1 en c (sp_endOf P s i j) P [(1, IOBs)]) := by
  refine MCX.of (EN.stb en) [some (.ref (c 0)), some (.int (zI s)), some (.int (zI i)), some (.int (zI j)), none] 1 rfl rfl rfl (by simp [Value.category]) (Nat.le_of_ble_eq_true rfl) (fun K hK hR hX => ?_)
  obtain ⟨hM, hC, hp⟩ := hp
  have hN4 := hM.2.2.1
  obtain ⟨hr_s, hr_i, hr_j, hW, hW4⟩ := hp
  have hCW : CWP P κ := ⟨hC, hW, hW4⟩
  unfold iR at hr_s
  unfold iR at hr_i
  unfold iR at hr_j
  refine V_aload_n dX10_endOf_0 rfl ?_
  refine V_iload_n dX10_endOf_1 rfl ?_
  refine V_iload_n dX10_endOf_2 rfl ?_
  refine V_iload_n dX10_endOf_3 rfl ?_
  refine VO_callXVF (As := [.int (zI s), .int (zI i), .int (zI j)]) (b := c 0) (i := 0) (ci := 9) (fs := cwF c κ) (T := TX10) (N := 9) (at_cw) rfl hK (k_requireCell en c κ s i j P ⟨hM, hC, hr_s, hr_i, hr_j⟩) mokX10_requireCell w830 w832 wps1_4 ⟨Nat.le_of_ble_eq_true rfl, Nat.le_of_ble_eq_true rfl⟩ rfl (Nat.le_of_ble_eq_true rfl) ⟨Nat.le_of_ble_eq_true rfl, Nat.le_of_ble_eq_true rfl⟩ dX10_endOf_4 hX (fun X w h => XP1.of (gd_f h.2.2) h.1 (by decide) h.2.1 hCW) (Nat.le_of_ble_eq_true rfl) (Nat.le_of_ble_eq_true rfl) (fun v w p_1 => ?_)
  obtain ⟨rfl, rfl, q_2⟩ := p_1
  show V K sX10_endOf 2 12 (fm (cO en c κ)) [some (.ref (c 0)), some (.int (zI s)), some (.int (zI i)), some (.int (zI j)), none] [.int (zI (cc P s i j))] 7
  refine V_istore (L' := [some (.ref (c 0)), some (.int (zI s)), some (.int (zI i)), some (.int (zI j)), some (.int (zI (cc P s i j)))]) dX10_endOf_7 (by decide) rfl ?_
  refine V_aload_n dX10_endOf_9 rfl ?_
  have hcc := cc_b hM q_2
  have hal := hM.als
  refine VO_callVF (As := []) (b := c 0) (i := 0) (ci := 9) (fs := cwF c κ) (T := TX10) (N := 9) (at_cw) rfl hK (k_arranged en c κ P ⟨hM, hC⟩) mokX10_arranged w312 w314 wps0_0 ⟨Nat.le_of_ble_eq_true rfl, Nat.le_of_ble_eq_true rfl⟩ rfl (Nat.le_of_ble_eq_true rfl) ⟨Nat.le_of_ble_eq_true rfl, Nat.le_of_ble_eq_true rfl⟩ dX10_endOf_10 (fun v w p_3 => ?_)
  obtain ⟨κ_4, rfl, rfl, q_5, q_6, q_7⟩ := p_3
  show V K sX10_endOf 2 12 (fm (cO en c κ_4)) [some (.ref (c 0)), some (.int (zI s)), some (.int (zI i)), some (.int (zI j)), some (.int (zI (cc P s i j)))] [.ref (c 2)] 13
  refine VO_getN (C0 := RX9) (T := TX9) (N := 10) (ci := 8) (fs := wkF c κ_4) 2 4 iwX9 (by decide) hK wn109 rfl (at_wk) rfl dX10_endOf_13 ?_
  refine V_iload dX10_endOf_16 rfl ?_
  refine VO_iald 7 at_wk_end ⟨by omega, by omega⟩ (by decide) dX10_endOf_18 ?_
  refine V_eqT (y := zI (enE P (P 0 11) (P 0 12) (cc P s i j))) (congrArg zI (q_6.2.1 _ hcc.1.1 hcc.1.2).2.2) ?_
  refine V_iret hR rfl (Nat.le_of_ble_eq_true rfl) (Nat.le_of_ble_eq_true rfl) dX10_endOf_19 ?_
  exact pubC (sp := sp_endOf P s i j) (gd_t q_2) rfl (hCW.fr q_7 (by decide))
set_option maxRecDepth 100000 in
set_option maxHeartbeats 4000000 in
theorem k_statementAt (en : Nat → Nat) (c : Nat → Nat) (κ : St) (x : Int) (P : St) (hp : MI P ∧ CI P κ ∧ iR x ∧ WR P κ ∧ WB κ 4) : MCX (EN en) yX10_statementAt sX10_statementAt [.ref (c 0), .int (zI x)] (fm (cO en c κ)) (fun v w => ∃ κ2 : St, v = some (.int (zI ((sp_statementAt P x).2.1))) ∧ w = fm (cO en c κ2) ∧ ((sp_statementAt P x).1 = 0) ∧ (CWP (sp_statementAt P x).2.2 κ2)) (XP1 en c (sp_statementAt P x) P [(1, IOBs)]) := by
  refine MCX.of (EN.stb en) [some (.ref (c 0)), some (.int (zI x))] 0 rfl rfl rfl (by simp [Value.category]) (Nat.le_of_ble_eq_true rfl) (fun K hK hR hX => ?_)
  obtain ⟨hM, hC, hp⟩ := hp
  have hN4 := hM.2.2.1
  obtain ⟨hr_x, hW, hW4⟩ := hp
  have hCW : CWP P κ := ⟨hC, hW, hW4⟩
  unfold iR at hr_x
  refine V_aload_n dX10_statementAt_0 rfl ?_
  refine V_iload_n dX10_statementAt_1 rfl ?_
  refine VO_callXVF (As := [.int (zI x)]) (b := c 0) (i := 0) (ci := 9) (fs := cwF c κ) (T := TX10) (N := 9) (at_cw) rfl hK (k_requireStep en c κ x P ⟨hM, hC, hr_x⟩) mokX10_requireStep w851 w853 wps1_6 ⟨Nat.le_of_ble_eq_true rfl, Nat.le_of_ble_eq_true rfl⟩ rfl (Nat.le_of_ble_eq_true rfl) ⟨Nat.le_of_ble_eq_true rfl, Nat.le_of_ble_eq_true rfl⟩ dX10_statementAt_2 hX (fun X w h => XP1.of (gd_f h.2.2) h.1 (by decide) h.2.1 hCW) (Nat.le_of_ble_eq_true rfl) (Nat.le_of_ble_eq_true rfl) (fun v w p_1 => ?_)
  obtain ⟨rfl, rfl, q_2⟩ := p_1
  show V K sX10_statementAt 1 6 (fm (cO en c κ)) [some (.ref (c 0)), some (.int (zI x))] [] 5
  refine V_aload_n dX10_statementAt_5 rfl ?_
  refine VO_callVF (As := []) (b := c 0) (i := 0) (ci := 9) (fs := cwF c κ) (T := TX10) (N := 9) (at_cw) rfl hK (k_arranged en c κ P ⟨hM, hC⟩) mokX10_arranged w312 w314 wps0_0 ⟨Nat.le_of_ble_eq_true rfl, Nat.le_of_ble_eq_true rfl⟩ rfl (Nat.le_of_ble_eq_true rfl) ⟨Nat.le_of_ble_eq_true rfl, Nat.le_of_ble_eq_true rfl⟩ dX10_statementAt_6 (fun v w p_3 => ?_)
  obtain ⟨κ_4, rfl, rfl, q_5, q_6, q_7⟩ := p_3
  show V K sX10_statementAt 1 6 (fm (cO en c κ_4)) [some (.ref (c 0)), some (.int (zI x))] [.ref (c 2)] 9
  refine V_pop dX10_statementAt_9 rfl ?_
  have hal := hM.als
  refine V_aload_n dX10_statementAt_10 rfl ?_
  refine VO_getf (C0 := RX10) (T := TX10) (N := 9) (ci := 9) (fs := cwF c κ_4) 0 1 iwX10 (by decide) w234 (Or.inl rfl) rfl (at_cw) rfl dX10_statementAt_11 ?_
  refine VO_getN (C0 := RX9) (T := TX9) (N := 10) (ci := 8) (fs := wkF c κ_4) 2 0 iwX9 (by decide) hK wn99 rfl (at_wk) rfl dX10_statementAt_14 ?_
  refine V_aload_n dX10_statementAt_17 rfl ?_
  refine VO_getf (C0 := RX10) (T := TX10) (N := 9) (ci := 9) (fs := cwF c κ_4) 0 1 iwX10 (by decide) w234 (Or.inl rfl) rfl (at_cw) rfl dX10_statementAt_18 ?_
  refine VO_getN (C0 := RX9) (T := TX9) (N := 10) (ci := 8) (fs := wkF c κ_4) 2 5 iwX9 (by decide) hK wn111 rfl (at_wk) rfl dX10_statementAt_21 ?_
  refine V_iload_n dX10_statementAt_24 rfl ?_
  refine VO_iald 8 at_wk_cellAt ⟨by omega, by omega⟩ (by decide) dX10_statementAt_25 ?_
  have hac := ac_spec (P := P) (bw := P 0 11) (cw := P 0 12) q_2.1 q_2.2
  refine V_eqT (y := zI (ac P (P 0 11) (P 0 12) x)) (congrArg zI (q_6.2.2 _ q_2.1 q_2.2)) ?_
  refine VO_iald 3 at_wk_number ⟨by omega, by omega⟩ (by decide) dX10_statementAt_26 ?_
  refine V_eqT (y := zI (ac P (P 0 11) (P 0 12) x / pt P)) (congrArg zI (q_6.2.1 _ hac.1 hac.2.1).1.1) ?_
  refine V_iret hR rfl (Nat.le_of_ble_eq_true rfl) (Nat.le_of_ble_eq_true rfl) dX10_statementAt_27 ?_
  exact pubC (sp := sp_statementAt P x) (gd_t q_2) rfl (hCW.fr q_7 (by decide))
set_option maxRecDepth 100000 in
set_option maxHeartbeats 4000000 in
theorem k_pointAt (en : Nat → Nat) (c : Nat → Nat) (κ : St) (x : Int) (P : St) (hp : MI P ∧ CI P κ ∧ iR x ∧ WR P κ ∧ WB κ 4) : MCX (EN en) yX10_pointAt sX10_pointAt [.ref (c 0), .int (zI x)] (fm (cO en c κ)) (fun v w => ∃ κ2 : St, v = some (.int (zI ((sp_pointAt P x).2.1))) ∧ w = fm (cO en c κ2) ∧ ((sp_pointAt P x).1 = 0) ∧ (CWP (sp_pointAt P x).2.2 κ2)) (XP1 en c (sp_pointAt P x) P [(1, IOBs)]) := by
  refine MCX.of (EN.stb en) [some (.ref (c 0)), some (.int (zI x)), none] 1 rfl rfl rfl (by simp [Value.category]) (Nat.le_of_ble_eq_true rfl) (fun K hK hR hX => ?_)
  obtain ⟨hM, hC, hp⟩ := hp
  have hN4 := hM.2.2.1
  obtain ⟨hr_x, hW, hW4⟩ := hp
  have hCW : CWP P κ := ⟨hC, hW, hW4⟩
  unfold iR at hr_x
  refine V_aload_n dX10_pointAt_0 rfl ?_
  refine V_iload_n dX10_pointAt_1 rfl ?_
  refine VO_callXVF (As := [.int (zI x)]) (b := c 0) (i := 0) (ci := 9) (fs := cwF c κ) (T := TX10) (N := 9) (at_cw) rfl hK (k_requireStep en c κ x P ⟨hM, hC, hr_x⟩) mokX10_requireStep w851 w853 wps1_6 ⟨Nat.le_of_ble_eq_true rfl, Nat.le_of_ble_eq_true rfl⟩ rfl (Nat.le_of_ble_eq_true rfl) ⟨Nat.le_of_ble_eq_true rfl, Nat.le_of_ble_eq_true rfl⟩ dX10_pointAt_2 hX (fun X w h => XP1.of (gd_f h.2.2) h.1 (by decide) h.2.1 hCW) (Nat.le_of_ble_eq_true rfl) (Nat.le_of_ble_eq_true rfl) (fun v w p_1 => ?_)
  obtain ⟨rfl, rfl, q_2⟩ := p_1
  show V K sX10_pointAt 1 6 (fm (cO en c κ)) [some (.ref (c 0)), some (.int (zI x)), none] [] 5
  refine V_aload_n dX10_pointAt_5 rfl ?_
  refine VO_callVF (As := []) (b := c 0) (i := 0) (ci := 9) (fs := cwF c κ) (T := TX10) (N := 9) (at_cw) rfl hK (k_arranged en c κ P ⟨hM, hC⟩) mokX10_arranged w312 w314 wps0_0 ⟨Nat.le_of_ble_eq_true rfl, Nat.le_of_ble_eq_true rfl⟩ rfl (Nat.le_of_ble_eq_true rfl) ⟨Nat.le_of_ble_eq_true rfl, Nat.le_of_ble_eq_true rfl⟩ dX10_pointAt_6 (fun v w p_3 => ?_)
  obtain ⟨κ_4, rfl, rfl, q_5, q_6, q_7⟩ := p_3
  show V K sX10_pointAt 1 6 (fm (cO en c κ_4)) [some (.ref (c 0)), some (.int (zI x)), none] [.ref (c 2)] 9
  refine V_pop dX10_pointAt_9 rfl ?_
  have hal := hM.als
  refine V_aload_n dX10_pointAt_10 rfl ?_
  refine VO_getf (C0 := RX10) (T := TX10) (N := 9) (ci := 9) (fs := cwF c κ_4) 0 1 iwX10 (by decide) w234 (Or.inl rfl) rfl (at_cw) rfl dX10_pointAt_11 ?_
  refine VO_getN (C0 := RX9) (T := TX9) (N := 10) (ci := 8) (fs := wkF c κ_4) 2 5 iwX9 (by decide) hK wn111 rfl (at_wk) rfl dX10_pointAt_14 ?_
  refine V_iload_n dX10_pointAt_17 rfl ?_
  refine VO_iald 8 at_wk_cellAt ⟨by omega, by omega⟩ (by decide) dX10_pointAt_18 ?_
  have hac := ac_spec (P := P) (bw := P 0 11) (cw := P 0 12) q_2.1 q_2.2
  have hcs := cell_st hM hac.1 hac.2.1
  refine V_eqT (y := zI (ac P (P 0 11) (P 0 12) x)) (congrArg zI (q_6.2.2 _ q_2.1 q_2.2)) ?_
  refine V_istore_n (L' := [some (.ref (c 0)), some (.int (zI x)), some (.int (zI (ac P (P 0 11) (P 0 12) x)))]) dX10_pointAt_19 (by decide) rfl ?_
  refine V_iload_n dX10_pointAt_20 rfl ?_
  refine V_aload_n dX10_pointAt_21 rfl ?_
  refine VO_getf (C0 := RX10) (T := TX10) (N := 9) (ci := 9) (fs := cwF c κ_4) 0 0 iwX10 (by decide) w233 (Or.inl rfl) rfl (at_cw) rfl dX10_pointAt_22 ?_
  refine V_aload_n dX10_pointAt_25 rfl ?_
  refine VO_getf (C0 := RX10) (T := TX10) (N := 9) (ci := 9) (fs := cwF c κ_4) 0 1 iwX10 (by decide) w234 (Or.inl rfl) rfl (at_cw) rfl dX10_pointAt_26 ?_
  refine VO_getN (C0 := RX9) (T := TX9) (N := 10) (ci := 8) (fs := wkF c κ_4) 2 0 iwX9 (by decide) hK wn99 rfl (at_wk) rfl dX10_pointAt_29 ?_
  refine V_iload_n dX10_pointAt_32 rfl ?_
  refine VO_iald 3 at_wk_number ⟨by omega, by omega⟩ (by decide) dX10_pointAt_33 ?_
  refine V_eqT (y := zI (ac P (P 0 11) (P 0 12) x / pt P)) (congrArg zI (q_6.2.1 _ hac.1 hac.2.1).1.1) ?_
  refine VO_callVF (As := [.int (zI (ac P (P 0 11) (P 0 12) x / pt P))]) (b := c 1) (i := 1) (ci := 4) (fs := prF c κ_4) (T := TX5) (N := 4) (at_pr) rfl hK (k_w5_firstCell en c κ_4 (ac P (P 0 11) (P 0 12) x / pt P) P ⟨hM, q_5, ⟨by omega, by omega⟩⟩) mokX5_firstCell w899 w305 w306 ⟨Nat.le_of_ble_eq_true rfl, Nat.le_of_ble_eq_true rfl⟩ rfl (Nat.le_of_ble_eq_true rfl) ⟨Nat.le_of_ble_eq_true rfl, Nat.le_of_ble_eq_true rfl⟩ dX10_pointAt_34 (fun v w p_8 => ?_)
  obtain ⟨rfl, rfl⟩ := p_8
  show V K sX10_pointAt 1 6 (fm (cO en c κ_4)) [some (.ref (c 0)), some (.int (zI x)), some (.int (zI (ac P (P 0 11) (P 0 12) x)))] [.int (zI ((ac P (P 0 11) (P 0 12) x / pt P) * pt P)), .int (zI (ac P (P 0 11) (P 0 12) x))] 37
  refine V_isub dX10_pointAt_37 ?_
  refine V_iret hR rfl (Nat.le_of_ble_eq_true rfl) (Nat.le_of_ble_eq_true rfl) dX10_pointAt_38 ?_
  exact pubC (sp := sp_pointAt P x) (gd_t q_2) (ziE (by rw [Int.emod_def, Int.mul_comm])) (hCW.fr q_7 (by decide))
set_option maxRecDepth 100000 in
set_option maxHeartbeats 4000000 in
theorem k_liveAt (en : Nat → Nat) (c : Nat → Nat) (κ : St) (x : Int) (P : St) (hp : MI P ∧ CI P κ ∧ iR x ∧ WR P κ ∧ WB κ 4) : MCX (EN en) yX10_liveAt sX10_liveAt [.ref (c 0), .int (zI x)] (fm (cO en c κ)) (fun v w => ∃ κ2 : St, v = some (.int (zI ((sp_liveAt P x).2.1))) ∧ w = fm (cO en c κ2) ∧ ((sp_liveAt P x).1 = 0) ∧ (CWP (sp_liveAt P x).2.2 κ2)) (XP1 en c (sp_liveAt P x) P [(1, IOBs)]) := by
  refine MCX.of (EN.stb en) [some (.ref (c 0)), some (.int (zI x))] 0 rfl rfl rfl (by simp [Value.category]) (Nat.le_of_ble_eq_true rfl) (fun K hK hR hX => ?_)
  obtain ⟨hM, hC, hp⟩ := hp
  have hN4 := hM.2.2.1
  obtain ⟨hr_x, hW, hW4⟩ := hp
  have hCW : CWP P κ := ⟨hC, hW, hW4⟩
  unfold iR at hr_x
  refine V_aload_n dX10_liveAt_0 rfl ?_
  refine V_iload_n dX10_liveAt_1 rfl ?_
  refine VO_callXVF (As := [.int (zI x)]) (b := c 0) (i := 0) (ci := 9) (fs := cwF c κ) (T := TX10) (N := 9) (at_cw) rfl hK (k_requireStep en c κ x P ⟨hM, hC, hr_x⟩) mokX10_requireStep w851 w853 wps1_6 ⟨Nat.le_of_ble_eq_true rfl, Nat.le_of_ble_eq_true rfl⟩ rfl (Nat.le_of_ble_eq_true rfl) ⟨Nat.le_of_ble_eq_true rfl, Nat.le_of_ble_eq_true rfl⟩ dX10_liveAt_2 hX (fun X w h => XP1.of (gd_f h.2.2) h.1 (by decide) h.2.1 hCW) (Nat.le_of_ble_eq_true rfl) (Nat.le_of_ble_eq_true rfl) (fun v w p_1 => ?_)
  obtain ⟨rfl, rfl, q_2⟩ := p_1
  show V K sX10_liveAt 1 6 (fm (cO en c κ)) [some (.ref (c 0)), some (.int (zI x))] [] 5
  refine V_aload_n dX10_liveAt_5 rfl ?_
  refine VO_callVF (As := []) (b := c 0) (i := 0) (ci := 9) (fs := cwF c κ) (T := TX10) (N := 9) (at_cw) rfl hK (k_arranged en c κ P ⟨hM, hC⟩) mokX10_arranged w312 w314 wps0_0 ⟨Nat.le_of_ble_eq_true rfl, Nat.le_of_ble_eq_true rfl⟩ rfl (Nat.le_of_ble_eq_true rfl) ⟨Nat.le_of_ble_eq_true rfl, Nat.le_of_ble_eq_true rfl⟩ dX10_liveAt_6 (fun v w p_3 => ?_)
  obtain ⟨κ_4, rfl, rfl, q_5, q_6, q_7⟩ := p_3
  show V K sX10_liveAt 1 6 (fm (cO en c κ_4)) [some (.ref (c 0)), some (.int (zI x))] [.ref (c 2)] 9
  refine V_iload_n dX10_liveAt_9 rfl ?_
  refine VO_callVF (As := [.int (zI x)]) (b := c 2) (i := 2) (ci := 8) (fs := wkF c κ_4) (T := TX9) (N := 10) (at_wk) rfl hK (k_w9_countLive en c κ_4 x P (P 0 11) (P 0 12) ⟨hM, q_5, q_6, q_2⟩) mokX9_countLive w856 w857 w858 ⟨Nat.le_of_ble_eq_true rfl, Nat.le_of_ble_eq_true rfl⟩ rfl (Nat.le_of_ble_eq_true rfl) ⟨Nat.le_of_ble_eq_true rfl, Nat.le_of_ble_eq_true rfl⟩ dX10_liveAt_10 (fun v w p_8 => ?_)
  obtain ⟨rfl, rfl⟩ := p_8
  show V K sX10_liveAt 1 6 (fm (cO en c κ_4)) [some (.ref (c 0)), some (.int (zI x))] [.int (zI (ct (fun k => decide (bt P (P 0 11) (P 0 12) k < x ∧ x ≤ enE P (P 0 11) (P 0 12) k)) (al P)))] 13
  refine V_iret hR rfl (Nat.le_of_ble_eq_true rfl) (Nat.le_of_ble_eq_true rfl) dX10_liveAt_13 ?_
  exact pubC (sp := sp_liveAt P x) (gd_t q_2) (ziE (lv_all hM)) (hCW.fr q_7 (by decide))
set_option maxRecDepth 100000 in
set_option maxHeartbeats 4000000 in
theorem k_mostLive (en : Nat → Nat) (c : Nat → Nat) (κ : St) (P : St) (hp : MI P ∧ CI P κ ∧ WR P κ ∧ WB κ 4) : MC (EN en) yX10_mostLive sX10_mostLive [.ref (c 0)] (fm (cO en c κ)) (fun v w => ∃ κ2 : St, v = some (.int (zI ((sp_mostLive P).2.1))) ∧ w = fm (cO en c κ2) ∧ ((sp_mostLive P).1 = 0) ∧ (CWP (sp_mostLive P).2.2 κ2)) := by
  refine MC.of (EN.stb en) [some (.ref (c 0))] 0 rfl rfl rfl (by simp [Value.category]) (Nat.le_of_ble_eq_true rfl) (fun K hK hR => ?_)
  obtain ⟨hM, hC, hp⟩ := hp
  have hN4 := hM.2.2.1
  obtain ⟨hW, hW4⟩ := hp
  have hCW : CWP P κ := ⟨hC, hW, hW4⟩
  have hal := hM.als
  refine V_aload_n dX10_mostLive_0 rfl ?_
  refine VO_callVF (As := []) (b := c 0) (i := 0) (ci := 9) (fs := cwF c κ) (T := TX10) (N := 9) (at_cw) rfl hK (k_arranged en c κ P ⟨hM, hC⟩) mokX10_arranged w312 w314 wps0_0 ⟨Nat.le_of_ble_eq_true rfl, Nat.le_of_ble_eq_true rfl⟩ rfl (Nat.le_of_ble_eq_true rfl) ⟨Nat.le_of_ble_eq_true rfl, Nat.le_of_ble_eq_true rfl⟩ dX10_mostLive_1 (fun v w p_1 => ?_)
  obtain ⟨κ_2, rfl, rfl, q_3, q_4, q_5⟩ := p_1
  show V K sX10_mostLive 0 0 (fm (cO en c κ_2)) [some (.ref (c 0))] [.ref (c 2)] 4
  refine V_iconst dX10_mostLive_4 ?_
  refine V_aload_n dX10_mostLive_5 rfl ?_
  refine VO_getf (C0 := RX10) (T := TX10) (N := 9) (ci := 9) (fs := cwF c κ_2) 0 0 iwX10 (by decide) w233 (Or.inl rfl) rfl (at_cw) rfl dX10_mostLive_6 ?_
  refine VO_callVF (As := []) (b := c 1) (i := 1) (ci := 4) (fs := prF c κ_2) (T := TX5) (N := 4) (at_pr) rfl hK (k_w5_cells en c κ_2 P ⟨hM, q_3⟩) mokX5_cells w300 w301 w302 ⟨Nat.le_of_ble_eq_true rfl, Nat.le_of_ble_eq_true rfl⟩ rfl (Nat.le_of_ble_eq_true rfl) ⟨Nat.le_of_ble_eq_true rfl, Nat.le_of_ble_eq_true rfl⟩ dX10_mostLive_9 (fun v w p_6 => ?_)
  obtain ⟨rfl, rfl⟩ := p_6
  show V K sX10_mostLive 0 0 (fm (cO en c κ_2)) [some (.ref (c 0))] [.int (zI (al P)), .int (zI 0), .ref (c 2)] 12
  refine VO_callVF (As := [.int (zI 0), .int (zI (al P))]) (b := c 2) (i := 2) (ci := 8) (fs := wkF c κ_2) (T := TX9) (N := 10) (at_wk) rfl hK (k_w9_mostLiveAmong en c κ_2 0 (al P) P (P 0 11) (P 0 12) ⟨hM, q_3, q_4, ⟨by omega, by omega, by omega⟩⟩) mokX9_mostLiveAmong w356 w357 w358 ⟨Nat.le_of_ble_eq_true rfl, Nat.le_of_ble_eq_true rfl⟩ rfl (Nat.le_of_ble_eq_true rfl) ⟨Nat.le_of_ble_eq_true rfl, Nat.le_of_ble_eq_true rfl⟩ dX10_mostLive_12 (fun v w p_7 => ?_)
  obtain ⟨κ_8, rfl, rfl, q_9, q_10, q_11⟩ := p_7
  show V K sX10_mostLive 0 0 (fm (cO en c κ_8)) [some (.ref (c 0))] [.int (zI (mxv (lvE P (P 0 11) (P 0 12) (selR 0 (al P))) (al P)))] 15
  refine V_iret hR rfl (Nat.le_of_ble_eq_true rfl) (Nat.le_of_ble_eq_true rfl) dX10_mostLive_15 ?_
  exact pubC (sp := sp_mostLive P) rfl (ziE (ml_all hM)) ((hCW.fr q_5 (by decide)).fr q_11 (by decide))
set_option maxRecDepth 100000 in
set_option maxHeartbeats 4000000 in
theorem k_mostLiveOf (en : Nat → Nat) (c : Nat → Nat) (κ : St) (s : Int) (P : St) (hp : MI P ∧ CI P κ ∧ iR s ∧ WR P κ ∧ WB κ 4) : MCX (EN en) yX10_mostLiveOf sX10_mostLiveOf [.ref (c 0), .int (zI s)] (fm (cO en c κ)) (fun v w => ∃ κ2 : St, v = some (.int (zI ((sp_mostLiveOf P s).2.1))) ∧ w = fm (cO en c κ2) ∧ ((sp_mostLiveOf P s).1 = 0) ∧ (CWP (sp_mostLiveOf P s).2.2 κ2)) (XP1 en c (sp_mostLiveOf P s) P [(1, IOBs)]) := by
  refine MCX.of (EN.stb en) [some (.ref (c 0)), some (.int (zI s))] 0 rfl rfl rfl (by simp [Value.category]) (Nat.le_of_ble_eq_true rfl) (fun K hK hR hX => ?_)
  obtain ⟨hM, hC, hp⟩ := hp
  have hN4 := hM.2.2.1
  obtain ⟨hr_s, hW, hW4⟩ := hp
  have hCW : CWP P κ := ⟨hC, hW, hW4⟩
  unfold iR at hr_s
  refine V_aload_n dX10_mostLiveOf_0 rfl ?_
  refine V_iload_n dX10_mostLiveOf_1 rfl ?_
  refine VO_callXVF (As := [.int (zI s)]) (b := c 0) (i := 0) (ci := 9) (fs := cwF c κ) (T := TX10) (N := 9) (at_cw) rfl hK (k_requireStatement en c κ s P ⟨hM, hC, hr_s⟩) mokX10_requireStatement w704 w706 wps1_1 ⟨Nat.le_of_ble_eq_true rfl, Nat.le_of_ble_eq_true rfl⟩ rfl (Nat.le_of_ble_eq_true rfl) ⟨Nat.le_of_ble_eq_true rfl, Nat.le_of_ble_eq_true rfl⟩ dX10_mostLiveOf_2 hX (fun X w h => XP1.of (gd_f h.2.2) h.1 (by decide) h.2.1 hCW) (Nat.le_of_ble_eq_true rfl) (Nat.le_of_ble_eq_true rfl) (fun v w p_1 => ?_)
  obtain ⟨rfl, rfl, q_2⟩ := p_1
  show V K sX10_mostLiveOf 1 6 (fm (cO en c κ)) [some (.ref (c 0)), some (.int (zI s))] [] 5
  refine V_aload_n dX10_mostLiveOf_5 rfl ?_
  refine VO_callVF (As := []) (b := c 0) (i := 0) (ci := 9) (fs := cwF c κ) (T := TX10) (N := 9) (at_cw) rfl hK (k_arranged en c κ P ⟨hM, hC⟩) mokX10_arranged w312 w314 wps0_0 ⟨Nat.le_of_ble_eq_true rfl, Nat.le_of_ble_eq_true rfl⟩ rfl (Nat.le_of_ble_eq_true rfl) ⟨Nat.le_of_ble_eq_true rfl, Nat.le_of_ble_eq_true rfl⟩ dX10_mostLiveOf_6 (fun v w p_3 => ?_)
  obtain ⟨κ_4, rfl, rfl, q_5, q_6, q_7⟩ := p_3
  show V K sX10_mostLiveOf 1 6 (fm (cO en c κ_4)) [some (.ref (c 0)), some (.int (zI s))] [.ref (c 2)] 9
  have hpt := hM.pts
  have hal := hM.als
  have s1 : (s + 1) * pt P = s * pt P + pt P := by rw [Int.add_mul, Int.one_mul]
  have c1s := comp_eq hM q_2.1 q_2.2 (show (0 : Int) ≤ 0 by omega) (show 0 < pt P by omega)
  have c2s := comp_eq hM q_2.1 q_2.2 (show 0 ≤ pt P - 1 by omega) (show pt P - 1 < pt P by omega)
  refine V_aload_n dX10_mostLiveOf_9 rfl ?_
  refine VO_getf (C0 := RX10) (T := TX10) (N := 9) (ci := 9) (fs := cwF c κ_4) 0 0 iwX10 (by decide) w233 (Or.inl rfl) rfl (at_cw) rfl dX10_mostLiveOf_10 ?_
  refine V_iload_n dX10_mostLiveOf_13 rfl ?_
  refine VO_callVF (As := [.int (zI s)]) (b := c 1) (i := 1) (ci := 4) (fs := prF c κ_4) (T := TX5) (N := 4) (at_pr) rfl hK (k_w5_firstCell en c κ_4 s P ⟨hM, q_5, by first | assumption | omega | exact ⟨by omega, by omega⟩ | exact ⟨⟨by omega, by omega⟩, by omega, by omega⟩ | exact ⟨⟨by omega, by omega⟩, ⟨by omega, by omega⟩⟩ | exact ⟨⟨by omega, by omega⟩, ⟨by omega, by omega⟩, by omega, by omega⟩⟩) mokX5_firstCell w899 w305 w306 ⟨Nat.le_of_ble_eq_true rfl, Nat.le_of_ble_eq_true rfl⟩ rfl (Nat.le_of_ble_eq_true rfl) ⟨Nat.le_of_ble_eq_true rfl, Nat.le_of_ble_eq_true rfl⟩ dX10_mostLiveOf_14 (fun v w p_8 => ?_)
  obtain ⟨rfl, rfl⟩ := p_8
  show V K sX10_mostLiveOf 1 6 (fm (cO en c κ_4)) [some (.ref (c 0)), some (.int (zI s))] [.int (zI (s * pt P)), .ref (c 2)] 17
  refine V_aload_n dX10_mostLiveOf_17 rfl ?_
  refine VO_getf (C0 := RX10) (T := TX10) (N := 9) (ci := 9) (fs := cwF c κ_4) 0 0 iwX10 (by decide) w233 (Or.inl rfl) rfl (at_cw) rfl dX10_mostLiveOf_18 ?_
  refine V_iload_n dX10_mostLiveOf_21 rfl ?_
  refine V_iconst dX10_mostLiveOf_22 ?_
  refine V_iadd dX10_mostLiveOf_23 ?_
  refine VO_callVF (As := [.int (zI (s + 1))]) (b := c 1) (i := 1) (ci := 4) (fs := prF c κ_4) (T := TX5) (N := 4) (at_pr) rfl hK (k_w5_firstCell en c κ_4 (s + 1) P ⟨hM, q_5, by first | assumption | omega | exact ⟨by omega, by omega⟩ | exact ⟨⟨by omega, by omega⟩, by omega, by omega⟩ | exact ⟨⟨by omega, by omega⟩, ⟨by omega, by omega⟩⟩ | exact ⟨⟨by omega, by omega⟩, ⟨by omega, by omega⟩, by omega, by omega⟩⟩) mokX5_firstCell w899 w305 w306 ⟨Nat.le_of_ble_eq_true rfl, Nat.le_of_ble_eq_true rfl⟩ rfl (Nat.le_of_ble_eq_true rfl) ⟨Nat.le_of_ble_eq_true rfl, Nat.le_of_ble_eq_true rfl⟩ dX10_mostLiveOf_24 (fun v w p_9 => ?_)
  obtain ⟨rfl, rfl⟩ := p_9
  show V K sX10_mostLiveOf 1 6 (fm (cO en c κ_4)) [some (.ref (c 0)), some (.int (zI s))] [.int (zI ((s + 1) * pt P)), .int (zI (s * pt P)), .ref (c 2)] 27
  refine VO_callVF (As := [.int (zI (s * pt P)), .int (zI ((s + 1) * pt P))]) (b := c 2) (i := 2) (ci := 8) (fs := wkF c κ_4) (T := TX9) (N := 10) (at_wk) rfl hK (k_w9_mostLiveAmong en c κ_4 (s * pt P) ((s + 1) * pt P) P (P 0 11) (P 0 12) ⟨hM, q_5, q_6, ⟨by omega, by omega, by omega⟩⟩) mokX9_mostLiveAmong w356 w357 w358 ⟨Nat.le_of_ble_eq_true rfl, Nat.le_of_ble_eq_true rfl⟩ rfl (Nat.le_of_ble_eq_true rfl) ⟨Nat.le_of_ble_eq_true rfl, Nat.le_of_ble_eq_true rfl⟩ dX10_mostLiveOf_27 (fun v w p_10 => ?_)
  obtain ⟨κ_11, rfl, rfl, q_12, q_13, q_14⟩ := p_10
  show V K sX10_mostLiveOf 1 6 (fm (cO en c κ_11)) [some (.ref (c 0)), some (.int (zI s))] [.int (zI (mxv (lvE P (P 0 11) (P 0 12) (selR (s * pt P) ((s + 1) * pt P))) (al P)))] 30
  refine V_iret hR rfl (Nat.le_of_ble_eq_true rfl) (Nat.le_of_ble_eq_true rfl) dX10_mostLiveOf_30 ?_
  exact pubC (sp := sp_mostLiveOf P s) (gd_t q_2) (ziE (ml_of hM q_2.1)) ((hCW.fr q_7 (by decide)).fr q_14 (by decide))
set_option maxRecDepth 100000 in
set_option maxHeartbeats 4000000 in
theorem k_conflictsOf (en : Nat → Nat) (c : Nat → Nat) (κ : St) (s : Int) (i : Int) (j : Int) (o : Int) (P : St) (hp : MI P ∧ CI P κ ∧ iR s ∧ iR i ∧ iR j ∧ iR o ∧ WR P κ ∧ WB κ 4) : MCX (EN en) yX10_conflictsOf sX10_conflictsOf [.ref (c 0), .int (zI s), .int (zI i), .int (zI j), .int (zI o)] (fm (cO en c κ)) (fun v w => ∃ κ2 : St, v = some (.int (zI ((sp_conflictsOf P s i j o).2.1))) ∧ w = fm (cO en c κ2) ∧ ((sp_conflictsOf P s i j o).1 = 0) ∧ (CWP (sp_conflictsOf P s i j o).2.2 κ2)) (XP1 en c (sp_conflictsOf P s i j o) P [(1, IOBs)]) := by
  refine MCX.of (EN.stb en) [some (.ref (c 0)), some (.int (zI s)), some (.int (zI i)), some (.int (zI j)), some (.int (zI o)), none] 1 rfl rfl rfl (by simp [Value.category]) (Nat.le_of_ble_eq_true rfl) (fun K hK hR hX => ?_)
  obtain ⟨hM, hC, hp⟩ := hp
  have hN4 := hM.2.2.1
  obtain ⟨hr_s, hr_i, hr_j, hr_o, hW, hW4⟩ := hp
  have hCW : CWP P κ := ⟨hC, hW, hW4⟩
  unfold iR at hr_s
  unfold iR at hr_i
  unfold iR at hr_j
  unfold iR at hr_o
  refine V_aload_n dX10_conflictsOf_0 rfl ?_
  refine V_iload_n dX10_conflictsOf_1 rfl ?_
  refine V_iload_n dX10_conflictsOf_2 rfl ?_
  refine V_iload_n dX10_conflictsOf_3 rfl ?_
  refine VO_callXVF (As := [.int (zI s), .int (zI i), .int (zI j)]) (b := c 0) (i := 0) (ci := 9) (fs := cwF c κ) (T := TX10) (N := 9) (at_cw) rfl hK (k_requireCell en c κ s i j P ⟨hM, hC, hr_s, hr_i, hr_j⟩) mokX10_requireCell w830 w832 wps1_4 ⟨Nat.le_of_ble_eq_true rfl, Nat.le_of_ble_eq_true rfl⟩ rfl (Nat.le_of_ble_eq_true rfl) ⟨Nat.le_of_ble_eq_true rfl, Nat.le_of_ble_eq_true rfl⟩ dX10_conflictsOf_4 hX (fun X w h => XP1.of (gd_f (fun z => h.2.2 z.1)) h.1 (by decide) h.2.1 hCW) (Nat.le_of_ble_eq_true rfl) (Nat.le_of_ble_eq_true rfl) (fun v w p_1 => ?_)
  obtain ⟨rfl, rfl, q_2⟩ := p_1
  show V K sX10_conflictsOf 2 12 (fm (cO en c κ)) [some (.ref (c 0)), some (.int (zI s)), some (.int (zI i)), some (.int (zI j)), some (.int (zI o)), none] [.int (zI (cc P s i j))] 7
  refine V_istore (L' := [some (.ref (c 0)), some (.int (zI s)), some (.int (zI i)), some (.int (zI j)), some (.int (zI o)), some (.int (zI (cc P s i j)))]) dX10_conflictsOf_7 (by decide) rfl ?_
  refine V_aload_n dX10_conflictsOf_9 rfl ?_
  refine V_iload dX10_conflictsOf_10 rfl ?_
  refine VO_callXVF (As := [.int (zI o)]) (b := c 0) (i := 0) (ci := 9) (fs := cwF c κ) (T := TX10) (N := 9) (at_cw) rfl hK (k_requireStatement en c κ o P ⟨hM, hC, hr_o⟩) mokX10_requireStatement w704 w706 wps1_1 ⟨Nat.le_of_ble_eq_true rfl, Nat.le_of_ble_eq_true rfl⟩ rfl (Nat.le_of_ble_eq_true rfl) ⟨Nat.le_of_ble_eq_true rfl, Nat.le_of_ble_eq_true rfl⟩ dX10_conflictsOf_12 hX (fun X w h => XP1.of (gd_f (fun z => h.2.2 z.2)) h.1 (by decide) h.2.1 hCW) (Nat.le_of_ble_eq_true rfl) (Nat.le_of_ble_eq_true rfl) (fun v w p_3 => ?_)
  obtain ⟨rfl, rfl, q_4⟩ := p_3
  show V K sX10_conflictsOf 3 18 (fm (cO en c κ)) [some (.ref (c 0)), some (.int (zI s)), some (.int (zI i)), some (.int (zI j)), some (.int (zI o)), some (.int (zI (cc P s i j)))] [] 15
  refine V_aload_n dX10_conflictsOf_15 rfl ?_
  refine VO_callVF (As := []) (b := c 0) (i := 0) (ci := 9) (fs := cwF c κ) (T := TX10) (N := 9) (at_cw) rfl hK (k_arranged en c κ P ⟨hM, hC⟩) mokX10_arranged w312 w314 wps0_0 ⟨Nat.le_of_ble_eq_true rfl, Nat.le_of_ble_eq_true rfl⟩ rfl (Nat.le_of_ble_eq_true rfl) ⟨Nat.le_of_ble_eq_true rfl, Nat.le_of_ble_eq_true rfl⟩ dX10_conflictsOf_16 (fun v w p_5 => ?_)
  obtain ⟨κ_6, rfl, rfl, q_7, q_8, q_9⟩ := p_5
  show V K sX10_conflictsOf 3 18 (fm (cO en c κ_6)) [some (.ref (c 0)), some (.int (zI s)), some (.int (zI i)), some (.int (zI j)), some (.int (zI o)), some (.int (zI (cc P s i j)))] [.ref (c 2)] 19
  have hcc := cc_b hM q_2
  have hpt := hM.pts
  have hal := hM.als
  have s1 : (o + 1) * pt P = o * pt P + pt P := by rw [Int.add_mul, Int.one_mul]
  have c1s := comp_eq hM q_4.1 q_4.2 (show (0 : Int) ≤ 0 by omega) (show 0 < pt P by omega)
  have c2s := comp_eq hM q_4.1 q_4.2 (show 0 ≤ pt P - 1 by omega) (show pt P - 1 < pt P by omega)
  refine V_iload dX10_conflictsOf_19 rfl ?_
  refine V_aload_n dX10_conflictsOf_21 rfl ?_
  refine VO_getf (C0 := RX10) (T := TX10) (N := 9) (ci := 9) (fs := cwF c κ_6) 0 0 iwX10 (by decide) w233 (Or.inl rfl) rfl (at_cw) rfl dX10_conflictsOf_22 ?_
  refine V_iload dX10_conflictsOf_25 rfl ?_
  refine VO_callVF (As := [.int (zI o)]) (b := c 1) (i := 1) (ci := 4) (fs := prF c κ_6) (T := TX5) (N := 4) (at_pr) rfl hK (k_w5_firstCell en c κ_6 o P ⟨hM, q_7, by first | assumption | omega | exact ⟨by omega, by omega⟩ | exact ⟨⟨by omega, by omega⟩, by omega, by omega⟩ | exact ⟨⟨by omega, by omega⟩, ⟨by omega, by omega⟩⟩ | exact ⟨⟨by omega, by omega⟩, ⟨by omega, by omega⟩, by omega, by omega⟩⟩) mokX5_firstCell w899 w305 w306 ⟨Nat.le_of_ble_eq_true rfl, Nat.le_of_ble_eq_true rfl⟩ rfl (Nat.le_of_ble_eq_true rfl) ⟨Nat.le_of_ble_eq_true rfl, Nat.le_of_ble_eq_true rfl⟩ dX10_conflictsOf_27 (fun v w p_10 => ?_)
  obtain ⟨rfl, rfl⟩ := p_10
  show V K sX10_conflictsOf 3 18 (fm (cO en c κ_6)) [some (.ref (c 0)), some (.int (zI s)), some (.int (zI i)), some (.int (zI j)), some (.int (zI o)), some (.int (zI (cc P s i j)))] [.int (zI (o * pt P)), .int (zI (cc P s i j)), .ref (c 2)] 30
  refine V_aload_n dX10_conflictsOf_30 rfl ?_
  refine VO_getf (C0 := RX10) (T := TX10) (N := 9) (ci := 9) (fs := cwF c κ_6) 0 0 iwX10 (by decide) w233 (Or.inl rfl) rfl (at_cw) rfl dX10_conflictsOf_31 ?_
  refine V_iload dX10_conflictsOf_34 rfl ?_
  refine V_iconst dX10_conflictsOf_36 ?_
  refine V_iadd dX10_conflictsOf_37 ?_
  refine VO_callVF (As := [.int (zI (o + 1))]) (b := c 1) (i := 1) (ci := 4) (fs := prF c κ_6) (T := TX5) (N := 4) (at_pr) rfl hK (k_w5_firstCell en c κ_6 (o + 1) P ⟨hM, q_7, by first | assumption | omega | exact ⟨by omega, by omega⟩ | exact ⟨⟨by omega, by omega⟩, by omega, by omega⟩ | exact ⟨⟨by omega, by omega⟩, ⟨by omega, by omega⟩⟩ | exact ⟨⟨by omega, by omega⟩, ⟨by omega, by omega⟩, by omega, by omega⟩⟩) mokX5_firstCell w899 w305 w306 ⟨Nat.le_of_ble_eq_true rfl, Nat.le_of_ble_eq_true rfl⟩ rfl (Nat.le_of_ble_eq_true rfl) ⟨Nat.le_of_ble_eq_true rfl, Nat.le_of_ble_eq_true rfl⟩ dX10_conflictsOf_38 (fun v w p_11 => ?_)
  obtain ⟨rfl, rfl⟩ := p_11
  show V K sX10_conflictsOf 3 18 (fm (cO en c κ_6)) [some (.ref (c 0)), some (.int (zI s)), some (.int (zI i)), some (.int (zI j)), some (.int (zI o)), some (.int (zI (cc P s i j)))] [.int (zI ((o + 1) * pt P)), .int (zI (o * pt P)), .int (zI (cc P s i j)), .ref (c 2)] 41
  refine VO_callVF (As := [.int (zI (cc P s i j)), .int (zI (o * pt P)), .int (zI ((o + 1) * pt P))]) (b := c 2) (i := 2) (ci := 8) (fs := wkF c κ_6) (T := TX9) (N := 10) (at_wk) rfl hK (k_w9_countConflicts en c κ_6 (cc P s i j) (o * pt P) ((o + 1) * pt P) P (P 0 11) (P 0 12) ⟨hM, q_7, q_8, hcc.1, ⟨by omega, by omega, by omega⟩⟩) mokX9_countConflicts w904 w905 w906 ⟨Nat.le_of_ble_eq_true rfl, Nat.le_of_ble_eq_true rfl⟩ rfl (Nat.le_of_ble_eq_true rfl) ⟨Nat.le_of_ble_eq_true rfl, Nat.le_of_ble_eq_true rfl⟩ dX10_conflictsOf_41 (fun v w p_12 => ?_)
  obtain ⟨rfl, rfl⟩ := p_12
  show V K sX10_conflictsOf 3 18 (fm (cO en c κ_6)) [some (.ref (c 0)), some (.int (zI s)), some (.int (zI i)), some (.int (zI j)), some (.int (zI o)), some (.int (zI (cc P s i j)))] [.int (zI (ct (fun p => cf P (P 0 11) (P 0 12) (cc P s i j) ((o * pt P) + p)) (((o + 1) * pt P) - (o * pt P))))] 44
  refine V_iret hR rfl (Nat.le_of_ble_eq_true rfl) (Nat.le_of_ble_eq_true rfl) dX10_conflictsOf_44 ?_
  exact pubC (sp := sp_conflictsOf P s i j o) (gd_t ⟨q_2, q_4⟩) (ziE (by rw [show (o + 1) * pt P - o * pt P = pt P by omega])) (hCW.fr q_9 (by decide))

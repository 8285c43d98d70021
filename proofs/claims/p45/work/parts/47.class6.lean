/-! the class: the ends of the cells' lives -/
/-- readers of q: the cells before k, and k by its first n reads -/
def R2 (P : St) (bw cw k n q x : Int) : Prop := ∃ r, 0 ≤ r ∧ r < al P ∧ x = bt P bw cw r ∧ ((r < k ∧ RDn P q r (P 4 (r / pt P))) ∨ (r = k ∧ RDn P q r n))
theorem R2_0 {P : St} {bw cw q x : Int} : ¬ R2 P bw cw 0 0 q x := by
  rintro ⟨r, h1, h2, -, ⟨h3, -⟩ | ⟨-, j, h4, h5, -⟩⟩ <;> omega
theorem R2_end {P : St} {bw cw q x : Int} : R2 P bw cw (al P) 0 q x ↔ Rf P bw cw q x := by
  constructor
  · rintro ⟨r, h1, h2, h3, ⟨-, h4⟩ | ⟨h4, -⟩⟩
    · exact ⟨r, h1, h2, h4, h3⟩
    · omega
  · rintro ⟨r, h1, h2, h3, h4⟩
    exact ⟨r, h1, h2, h4, Or.inl ⟨h2, h3⟩⟩
theorem R2_next {P : St} {bw cw k q x : Int} : R2 P bw cw k (P 4 (k / pt P)) q x ↔ R2 P bw cw (k + 1) 0 q x := by
  constructor
  · rintro ⟨r, h1, h2, h3, ⟨h4, h5⟩ | ⟨h4, h5⟩⟩
    · exact ⟨r, h1, h2, h3, Or.inl ⟨by omega, h5⟩⟩
    · rw [← h4] at h5
      exact ⟨r, h1, h2, h3, Or.inl ⟨by omega, h5⟩⟩
  · rintro ⟨r, h1, h2, h3, ⟨h4, h5⟩ | ⟨-, j, a, b, -⟩⟩
    · by_cases e : r = k
      · rw [e] at h5
        exact ⟨r, h1, h2, h3, Or.inr ⟨e, by rw [e]; exact h5⟩⟩
      · exact ⟨r, h1, h2, h3, Or.inl ⟨by omega, h5⟩⟩
    · omega
theorem R2_step {P : St} {bw cw k n q x : Int} (hk : 0 ≤ k) (hkn : k < al P) (hn : 0 ≤ n) : R2 P bw cw k (n + 1) q x ↔ (R2 P bw cw k n q x ∨ ((inP P (k % pt P) (4 * (k / pt P) + n) ∧ q = rdc P (k % pt P) (4 * (k / pt P) + n)) ∧ x = bt P bw cw k)) := by
  constructor
  · rintro ⟨r, h1, h2, h3, h4 | ⟨rfl, j, a, b, d, e⟩⟩
    · exact Or.inl ⟨r, h1, h2, h3, Or.inl h4⟩
    · by_cases ej : j = n
      · rw [ej] at d e
        exact Or.inr ⟨⟨d, e.symm⟩, h3⟩
      · exact Or.inl ⟨r, h1, h2, h3, Or.inr ⟨rfl, j, a, by omega, d, e⟩⟩
  · rintro (⟨r, h1, h2, h3, h4 | ⟨rfl, j, a, b, d, e⟩⟩ | ⟨⟨d, e⟩, h3⟩)
    · exact ⟨r, h1, h2, h3, Or.inl h4⟩
    · exact ⟨r, h1, h2, h3, Or.inr ⟨rfl, j, a, by omega, d, e⟩⟩
    · exact ⟨k, hk, hkn, h3, Or.inr ⟨rfl, n, hn, by omega, d, e.symm⟩⟩
theorem eb_b {P : St} {bw cw k : Int} (hk : 0 ≤ k) (hkn : k < al P) : 0 ≤ eb P bw cw k ∧ eb P bw cw k ≤ al P := by
  have b := bt_b (bw := bw) (cw := cw) hk hkn
  unfold eb; split <;> omega
theorem R2_b {P : St} {bw cw k n q e : Int} (hq : 0 ≤ q) (hqn : q < al P) (h : EndS (R2 P bw cw k n q) (eb P bw cw q) e) : 0 ≤ e ∧ e ≤ al P := by
  have b := eb_b (bw := bw) (cw := cw) hq hqn
  obtain ⟨h1, h2, h3⟩ := h
  refine ⟨by omega, ?_⟩
  rcases h3 with h3 | ⟨x, ⟨r, a, c, rfl, -⟩, h3⟩
  · omega
  · have := bt_b (bw := bw) (cw := cw) a c; omega
/-- one more read done -/
def StrQ (P : St) (bw cw k r : Int) (κ κ2 : St) : Prop := ∀ q, 0 ≤ q → q < al P → ((inP P (k % pt P) r ∧ q = rdc P (k % pt P) r) → κ2 55 q = maxI (κ 55 q) (bt P bw cw k)) ∧ (¬ (inP P (k % pt P) r ∧ q = rdc P (k % pt P) r) → κ2 55 q = κ 55 q)
theorem StrQ.ends {P κ κ2 : St} {bw cw k n : Int} (hk : 0 ≤ k) (hkn : k < al P) (hn : 0 ≤ n) (h : StrQ P bw cw k (4 * (k / pt P) + n) κ κ2) (hE : ∀ q, 0 ≤ q → q < al P → EndS (R2 P bw cw k n q) (eb P bw cw q) (κ 55 q)) : ∀ q, 0 ≤ q → q < al P → EndS (R2 P bw cw k (n + 1) q) (eb P bw cw q) (κ2 55 q) := by
  intro q a b
  by_cases e : inP P (k % pt P) (4 * (k / pt P) + n) ∧ q = rdc P (k % pt P) (4 * (k / pt P) + n)
  · rw [(h q a b).1 e]
    have hr : ∀ x, R2 P bw cw k (n + 1) q x ↔ (R2 P bw cw k n q x ∨ x = bt P bw cw k) := fun x => (R2_step hk hkn hn).trans ⟨fun z => z.imp id And.right, fun z => z.imp id (fun w => ⟨e, w⟩)⟩
    unfold maxI
    split
    · exact (hE q a b).up hr (by omega)
    · exact (hE q a b).keep hr (by omega)
  · rw [(h q a b).2 e]
    exact (hE q a b).congr (fun x => ⟨fun z => (R2_step hk hkn hn).mpr (Or.inl z), fun z => ((R2_step hk hkn hn).mp z).elim id (fun w => absurd w.1 e)⟩)
noncomputable abbrev enE (P : St) (bw cw k : Int) : Int := en P bw cw k
/-- cells arranged and dealt: what the class's work holds -/
def Arr (P : St) (bw cw : Int) (κ : St) : Prop := κ 50 0 = al P ∧ (∀ k, 0 ≤ k → k < al P → (κ 51 k = k / pt P ∧ κ 52 k = k % pt P / P 0 1 ∧ κ 53 k = k % pt P % P 0 1) ∧ κ 54 k = bt P bw cw k ∧ κ 55 k = en P bw cw k) ∧ ∀ t, 0 ≤ t → t < al P → κ 56 t = ac P bw cw t
set_option maxRecDepth 100000 in
set_option maxHeartbeats 4000000 in
theorem k_w9_stretchCellRead (en : Nat → Nat) (c : Nat → Nat) (κ : St) (k : Int) (i : Int) (j : Int) (P : St) (bw cw : Int) (hp : MI P ∧ CI P κ ∧ (0 ≤ k ∧ k < al P) ∧ i = k / pt P ∧ (0 ≤ j ∧ j < P 4 i) ∧ TP P bw cw (al P) κ ∧ (κ 54 k = bt P bw cw k) ∧ (∀ q, 0 ≤ q → q < al P → 0 ≤ κ 55 q ∧ κ 55 q ≤ al P)) : MC (EN en) yX9_stretchCellRead sX9_stretchCellRead [.ref (c 2), .ref (c 1), .int (zI k), .ref (c (37 + 8 * Int.toNat i + Int.toNat j))] (fm (cO en c κ)) (fun v w => ∃ κ2 : St, v = none ∧ w = fm (cO en c κ2) ∧ (CI P κ2) ∧ (StrQ P bw cw k (4 * i + j) κ κ2) ∧ (fr [55] κ κ2)) := by
  refine MC.of (EN.stb en) [some (.ref (c 2)), some (.ref (c 1)), some (.int (zI k)), some (.ref (c (37 + 8 * Int.toNat i + Int.toNat j))), none, none, none] 3 rfl rfl rfl (by simp [Value.category]) (Nat.le_of_ble_eq_true rfl) (fun K hK hR => ?_)
  obtain ⟨hM, hC, hp⟩ := hp
  have hN4 := hM.2.2.1
  obtain ⟨hk, hik, hj, hT, hB, hE⟩ := hp
  have hal := hM.als
  have hcs := cell_st hM hk.1 hk.2
  rw [← hik] at hcs
  have hi : 0 ≤ i ∧ i < P 0 2 := ⟨hcs.1, hcs.2.1⟩
  have hr := hM.rd hi hj
  have hpl := place_rc hM hcs.2.2.1 hcs.2.2.2.1
  have hm1 := hM.1
  have hm2 := hM.2.1
  have hTk := hT k hk.1 hk.2
  have hbb := bt_b (bw := bw) (cw := cw) hk.1 hk.2
  refine V_aload_n dX9_stretchCellRead_0 rfl ?_
  refine VO_getf (C0 := RX9) (T := TX9) (N := 10) (ci := 8) (fs := wkF c κ) 2 1 iwX9 (by decide) w100 (Or.inl rfl) rfl (at_wk) rfl dX9_stretchCellRead_1 ?_
  refine V_iload_n dX9_stretchCellRead_4 rfl ?_
  refine VO_iald 4 at_wk_row ⟨by omega, by omega⟩ (by decide) dX9_stretchCellRead_5 ?_
  refine V_eqT (y := zI (k % pt P / P 0 1)) (congrArg zI hTk.1.2.1) ?_
  refine V_aload_n dX9_stretchCellRead_6 rfl ?_
  refine VO_getN (C0 := RX6) (T := TX6) (N := 4) (ci := 5) (fs := rdF κ i j) (37 + 8 * Int.toNat i + Int.toNat j) 2 iwX6 (by decide) hK wn739 rfl (at_rd ((hC).rd hM (by omega) (by omega))) rfl dX9_stretchCellRead_7 ?_
  refine V_eqT (y := zI (P 7 (4 * i + j))) (congrArg zI (congrFun ((hC).1 7 (by decide) (by decide)) _)) ?_
  refine V_isub dX9_stretchCellRead_10 ?_
  refine V_istore (L' := [some (.ref (c 2)), some (.ref (c 1)), some (.int (zI k)), some (.ref (c (37 + 8 * Int.toNat i + Int.toNat j))), some (.int (zI ((k % pt P / P 0 1) - (P 7 (4 * i + j))))), none, none]) dX9_stretchCellRead_11 (by decide) rfl ?_
  refine V_aload_n dX9_stretchCellRead_13 rfl ?_
  refine VO_getf (C0 := RX9) (T := TX9) (N := 10) (ci := 8) (fs := wkF c κ) 2 2 iwX9 (by decide) w103 (Or.inl rfl) rfl (at_wk) rfl dX9_stretchCellRead_14 ?_
  refine V_iload_n dX9_stretchCellRead_17 rfl ?_
  refine VO_iald 5 at_wk_column ⟨by omega, by omega⟩ (by decide) dX9_stretchCellRead_18 ?_
  refine V_eqT (y := zI (k % pt P % P 0 1)) (congrArg zI hTk.1.2.2) ?_
  refine V_aload_n dX9_stretchCellRead_19 rfl ?_
  refine VO_getN (C0 := RX6) (T := TX6) (N := 4) (ci := 5) (fs := rdF κ i j) (37 + 8 * Int.toNat i + Int.toNat j) 3 iwX6 (by decide) hK wn743 rfl (at_rd ((hC).rd hM (by omega) (by omega))) rfl dX9_stretchCellRead_20 ?_
  refine V_eqT (y := zI (P 8 (4 * i + j))) (congrArg zI (congrFun ((hC).1 8 (by decide) (by decide)) _)) ?_
  refine V_isub dX9_stretchCellRead_23 ?_
  refine V_istore (L' := [some (.ref (c 2)), some (.ref (c 1)), some (.int (zI k)), some (.ref (c (37 + 8 * Int.toNat i + Int.toNat j))), some (.int (zI ((k % pt P / P 0 1) - (P 7 (4 * i + j))))), some (.int (zI ((k % pt P % P 0 1) - (P 8 (4 * i + j))))), none]) dX9_stretchCellRead_24 (by decide) rfl ?_
  refine V_aload_n dX9_stretchCellRead_26 rfl ?_
  refine V_iload dX9_stretchCellRead_27 rfl ?_
  refine V_iload dX9_stretchCellRead_29 rfl ?_
  refine VO_callVF (As := [.int (zI ((k % pt P / P 0 1) - (P 7 (4 * i + j)))), .int (zI ((k % pt P % P 0 1) - (P 8 (4 * i + j))))]) (b := c 1) (i := 1) (ci := 4) (fs := prF c κ) (T := TX5) (N := 4) (at_pr) rfl hK (k_w5_hasPoint en c κ ((k % pt P / P 0 1) - (P 7 (4 * i + j))) ((k % pt P % P 0 1) - (P 8 (4 * i + j))) P ⟨hM, hC, ⟨⟨by omega, by omega⟩, ⟨by omega, by omega⟩⟩⟩) mokX5_hasPoint w345 w346 w347 ⟨Nat.le_of_ble_eq_true rfl, Nat.le_of_ble_eq_true rfl⟩ rfl (Nat.le_of_ble_eq_true rfl) ⟨Nat.le_of_ble_eq_true rfl, Nat.le_of_ble_eq_true rfl⟩ dX9_stretchCellRead_31 (fun v w p_1 => ?_)
  obtain ⟨rfl, rfl⟩ := p_1
  show V K sX9_stretchCellRead 0 0 (fm (cO en c κ)) [some (.ref (c 2)), some (.ref (c 1)), some (.int (zI k)), some (.ref (c (37 + 8 * Int.toNat i + Int.toNat j))), some (.int (zI ((k % pt P / P 0 1) - (P 7 (4 * i + j))))), some (.int (zI ((k % pt P % P 0 1) - (P 8 (4 * i + j))))), none] [.int (zI (bz (dcd (inF P ((k % pt P / P 0 1) - (P 7 (4 * i + j))) ((k % pt P % P 0 1) - (P 8 (4 * i + j)))))))] 34
  refine V_ifc_eq (tgt := 74) dX9_stretchCellRead_34 (by decide) (fun c_2 => ?_) (fun c_2 => ?_)
  · refine V_vret hR rfl (Nat.le_of_ble_eq_true rfl) (Nat.le_of_ble_eq_true rfl) dX9_stretchCellRead_74 ?_
    exact ⟨κ, rfl, rfl, hC, fun q a b => ⟨fun z => absurd z.1 c_2, fun _ => rfl⟩, fr.rf _ _⟩
  · have hin : inP P (k % pt P) (4 * i + j) := c_2
    obtain ⟨a1, a2, -, -⟩ := rdp_b hM hin
    have hcc := comp_eq hM hr.1.1 hr.1.2 a1 a2
    have hrd : rdc P (k % pt P) (4 * i + j) = P 5 (4 * i + j) * pt P + ((k % pt P / P 0 1 - P 7 (4 * i + j)) * P 0 1 + (k % pt P % P 0 1 - P 8 (4 * i + j))) := rfl
    have hcb : 0 ≤ P 5 (4 * i + j) * pt P + ((k % pt P / P 0 1 - P 7 (4 * i + j)) * P 0 1 + (k % pt P % P 0 1 - P 8 (4 * i + j))) ∧ P 5 (4 * i + j) * pt P + ((k % pt P / P 0 1 - P 7 (4 * i + j)) * P 0 1 + (k % pt P % P 0 1 - P 8 (4 * i + j))) < al P := hcc.1
    have hEq := hE _ hcb.1 hcb.2
    have hrr := hrd
    refine V_aload_n dX9_stretchCellRead_37 rfl ?_
    refine V_aload_n dX9_stretchCellRead_38 rfl ?_
    refine VO_getN (C0 := RX6) (T := TX6) (N := 4) (ci := 5) (fs := rdF κ i j) (37 + 8 * Int.toNat i + Int.toNat j) 0 iwX6 (by decide) hK wn733 rfl (at_rd ((hC).rd hM (by omega) (by omega))) rfl dX9_stretchCellRead_39 ?_
    refine V_eqT (y := zI (P 5 (4 * i + j))) (congrArg zI (congrFun ((hC).1 5 (by decide) (by decide)) _)) ?_
    refine V_iload dX9_stretchCellRead_42 rfl ?_
    refine V_iload dX9_stretchCellRead_44 rfl ?_
    refine VO_callVF (As := [.int (zI (P 5 (4 * i + j))), .int (zI ((k % pt P / P 0 1) - (P 7 (4 * i + j)))), .int (zI ((k % pt P % P 0 1) - (P 8 (4 * i + j))))]) (b := c 1) (i := 1) (ci := 4) (fs := prF c κ) (T := TX5) (N := 4) (at_pr) rfl hK (k_w5_cellOf en c κ (P 5 (4 * i + j)) ((k % pt P / P 0 1) - (P 7 (4 * i + j))) ((k % pt P % P 0 1) - (P 8 (4 * i + j))) P ⟨hM, hC⟩) mokX5_cellOf w349 w350 w351 ⟨Nat.le_of_ble_eq_true rfl, Nat.le_of_ble_eq_true rfl⟩ rfl (Nat.le_of_ble_eq_true rfl) ⟨Nat.le_of_ble_eq_true rfl, Nat.le_of_ble_eq_true rfl⟩ dX9_stretchCellRead_46 (fun v w p_3 => ?_)
    obtain ⟨rfl, rfl⟩ := p_3
    show V K sX9_stretchCellRead 0 0 (fm (cO en c κ)) [some (.ref (c 2)), some (.ref (c 1)), some (.int (zI k)), some (.ref (c (37 + 8 * Int.toNat i + Int.toNat j))), some (.int (zI ((k % pt P / P 0 1) - (P 7 (4 * i + j))))), some (.int (zI ((k % pt P % P 0 1) - (P 8 (4 * i + j))))), none] [.int (zI ((P 5 (4 * i + j)) * pt P + (((k % pt P / P 0 1) - (P 7 (4 * i + j))) * P 0 1 + ((k % pt P % P 0 1) - (P 8 (4 * i + j))))))] 49
    refine V_istore (L' := [some (.ref (c 2)), some (.ref (c 1)), some (.int (zI k)), some (.ref (c (37 + 8 * Int.toNat i + Int.toNat j))), some (.int (zI ((k % pt P / P 0 1) - (P 7 (4 * i + j))))), some (.int (zI ((k % pt P % P 0 1) - (P 8 (4 * i + j))))), some (.int (zI ((P 5 (4 * i + j)) * pt P + (((k % pt P / P 0 1) - (P 7 (4 * i + j))) * P 0 1 + ((k % pt P % P 0 1) - (P 8 (4 * i + j)))))))]) dX9_stretchCellRead_49 (by decide) rfl ?_
    refine V_aload_n dX9_stretchCellRead_51 rfl ?_
    refine VO_getf (C0 := RX9) (T := TX9) (N := 10) (ci := 8) (fs := wkF c κ) 2 4 iwX9 (by decide) w108 (Or.inl rfl) rfl (at_wk) rfl dX9_stretchCellRead_52 ?_
    refine V_iload dX9_stretchCellRead_55 rfl ?_
    refine V_aload_n dX9_stretchCellRead_57 rfl ?_
    refine VO_getf (C0 := RX9) (T := TX9) (N := 10) (ci := 8) (fs := wkF c κ) 2 4 iwX9 (by decide) w108 (Or.inl rfl) rfl (at_wk) rfl dX9_stretchCellRead_58 ?_
    refine V_iload dX9_stretchCellRead_61 rfl ?_
    refine VO_iald 7 at_wk_end ⟨by omega, by omega⟩ (by decide) dX9_stretchCellRead_63 ?_
    refine V_aload_n dX9_stretchCellRead_64 rfl ?_
    refine VO_getf (C0 := RX9) (T := TX9) (N := 10) (ci := 8) (fs := wkF c κ) 2 3 iwX9 (by decide) w106 (Or.inl rfl) rfl (at_wk) rfl dX9_stretchCellRead_65 ?_
    refine V_iload_n dX9_stretchCellRead_68 rfl ?_
    refine VO_iald 6 at_wk_birth ⟨by omega, by omega⟩ (by decide) dX9_stretchCellRead_69 ?_
    refine V_eqT (y := zI (bt P bw cw k)) (congrArg zI hB) ?_
    refine V_callSE (As := [.int (zI (κ 55 ((P 5 (4 * i + j)) * pt P + (((k % pt P / P 0 1) - (P 7 (4 * i + j))) * P 0 1 + ((k % pt P % P 0 1) - (P 8 (4 * i + j))))))), .int (zI (bt P bw cw k))]) hK (k_max en (κ 55 ((P 5 (4 * i + j)) * pt P + (((k % pt P / P 0 1) - (P 7 (4 * i + j))) * P 0 1 + ((k % pt P % P 0 1) - (P 8 (4 * i + j)))))) (bt P bw cw k) (⟨⟨by omega, by omega⟩, ⟨by omega, by omega⟩⟩)) mokJ9_max_7cf53 w353 w354 ⟨Nat.le_of_ble_eq_true rfl, Nat.le_of_ble_eq_true rfl⟩ rfl (Nat.le_of_ble_eq_true rfl) ⟨Nat.le_of_ble_eq_true rfl, Nat.le_of_ble_eq_true rfl⟩ dX9_stretchCellRead_70 (fun v w p_4 => ?_)
    obtain ⟨rfl, rfl⟩ := p_4
    show V K sX9_stretchCellRead 0 0 (fm (cO en c κ)) [some (.ref (c 2)), some (.ref (c 1)), some (.int (zI k)), some (.ref (c (37 + 8 * Int.toNat i + Int.toNat j))), some (.int (zI ((k % pt P / P 0 1) - (P 7 (4 * i + j))))), some (.int (zI ((k % pt P % P 0 1) - (P 8 (4 * i + j))))), some (.int (zI ((P 5 (4 * i + j)) * pt P + (((k % pt P / P 0 1) - (P 7 (4 * i + j))) * P 0 1 + ((k % pt P % P 0 1) - (P 8 (4 * i + j)))))))] [.int (zI (maxI (κ 55 ((P 5 (4 * i + j)) * pt P + (((k % pt P / P 0 1) - (P 7 (4 * i + j))) * P 0 1 + ((k % pt P % P 0 1) - (P 8 (4 * i + j)))))) (bt P bw cw k))), .int (zI ((P 5 (4 * i + j)) * pt P + (((k % pt P / P 0 1) - (P 7 (4 * i + j))) * P 0 1 + ((k % pt P % P 0 1) - (P 8 (4 * i + j)))))), .ref (c 7)] 73
    refine VO_iast 7 at_wk_end ⟨by omega, by omega⟩ (by decide) dX9_stretchCellRead_73 (st_wk_end ((P 5 (4 * i + j)) * pt P + (((k % pt P / P 0 1) - (P 7 (4 * i + j))) * P 0 1 + ((k % pt P % P 0 1) - (P 8 (4 * i + j))))) (maxI (κ 55 ((P 5 (4 * i + j)) * pt P + (((k % pt P / P 0 1) - (P 7 (4 * i + j))) * P 0 1 + ((k % pt P % P 0 1) - (P 8 (4 * i + j)))))) (bt P bw cw k))) ?_
    refine V_vret hR rfl (Nat.le_of_ble_eq_true rfl) (Nat.le_of_ble_eq_true rfl) dX9_stretchCellRead_74 ?_
    refine ⟨_, rfl, rfl, ((hC).up (by decide)), fun q a b => ⟨fun z => ?_, fun z => ?_⟩, (fr.rf _ _).upd (by decide)⟩
    · show fup (κ 55) _ _ q = _
      rw [z.2, hrd, fup_eq]
    · show fup (κ 55) _ _ q = _
      exact fup_ne (fun e => z ⟨hin, e⟩)

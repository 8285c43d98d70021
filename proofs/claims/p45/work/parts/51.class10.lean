/-! the class: differences, gathered -/
/-- the object of differences holds the pairs of D -/
def DS (P : St) (D : Int → Int → Prop) (κ : St) : Prop := (κ 64 1 = P 0 0 ∧ κ 64 2 = P 0 1) ∧ (∀ q, 0 ≤ q → q < 225 → κ 60 q = bz (dcd (D (q / 15 - 7) (q % 15 - 7)))) ∧ κ 64 0 = ct (fun q => dcd (D (q / 15 - 7) (q % 15 - 7))) 225 ∧ (∀ i, 0 ≤ i → i < κ 64 0 → D (κ 61 i) (κ 62 i)) ∧ ∀ r d, D r d → ((-7 ≤ r ∧ r ≤ 7) ∧ -7 ≤ d ∧ d ≤ 7) ∧ ∃ i, (0 ≤ i ∧ i < κ 64 0) ∧ κ 61 i = r ∧ κ 62 i = d
theorem DS.congr {P κ : St} {D D2 : Int → Int → Prop} (h : DS P D κ) (hq : ∀ r d, D r d ↔ D2 r d) : DS P D2 κ := by
  have e : D = D2 := funext fun r => funext fun d => propext (hq r d)
  rw [← e]
  exact h
theorem DS.none {P κ : St} (h1 : κ 64 1 = P 0 0) (h2 : κ 64 2 = P 0 1) (h0 : κ 64 0 = 0) (hz : ∀ q, 0 ≤ q → q < 225 → κ 60 q = 0) : DS P (fun _ _ => False) κ := by
  refine ⟨⟨h1, h2⟩, fun q a b => by rw [hz q a b, dcd_f.mpr (fun z => z)]; rfl, ?_, fun i a b => by omega, fun r d z => z.elim⟩
  rw [h0, ct_none _ (by decide) (fun j _ _ => dcd_f.mpr (fun z => z))]
theorem ct_add1 {p : Int → Bool} {q0 N : Int} (h : p q0 = false) (h0 : 0 ≤ q0) (hN : q0 < N) : ct (fun q => p q || decide (q = q0)) N = ct p N + 1 := by
  rw [ct_or N (by omega) (fun j _ _ => by
    rintro ⟨h1, h2⟩
    rw [of_decide_eq_true h2, h] at h1
    cases h1)]
  rw [ct_single (p := fun q => decide (q = q0)) h0 N (by omega) hN (fun j _ _ z => of_decide_eq_true z), decide_eq_true rfl]
  rfl
def addD (D : Int → Int → Prop) (r0 d0 : Int) : Int → Int → Prop := fun r d => D r d ∨ (r = r0 ∧ d = d0)
theorem DS.room {P κ : St} {D : Int → Int → Prop} {r d : Int} (h : DS P D κ) (hr : -7 ≤ r ∧ r ≤ 7) (hd : -7 ≤ d ∧ d ≤ 7) (hn : ¬ D r d) : 0 ≤ κ 64 0 ∧ κ 64 0 < 225 := by
  rw [h.2.2.1]
  refine ⟨(ct_b _ 225 (by decide)).1, ?_⟩
  have e1 : (15 * (r + 7) + (d + 7)) / 15 - 7 = r := by omega
  have e2 : (15 * (r + 7) + (d + 7)) % 15 - 7 = d := by omega
  have := ct_lt (p := fun q => dcd (D (q / 15 - 7) (q % 15 - 7))) (q := fun _ => true) (i := 15 * (r + 7) + (d + 7)) (by rw [e1, e2]; exact dcd_f.mpr hn) rfl (by omega) 225 (by decide) (fun _ _ _ _ => rfl) (by omega)
  rw [ct_all (p := fun _ => true) 225 (by decide) (fun _ _ _ => rfl)] at this
  exact this
theorem DS.add {P κ κ2 : St} {D : Int → Int → Prop} {r d q0 : Int} (h : DS P D κ) (hr : -7 ≤ r ∧ r ≤ 7) (hd : -7 ≤ d ∧ d ≤ 7) (hn : ¬ D r d) (hq : q0 = 15 * (r + 7) + (d + 7)) (e0 : κ2 60 = fup (κ 60) q0 1) (e1 : κ2 61 = fup (κ 61) (κ 64 0) r) (e2 : κ2 62 = fup (κ 62) (κ 64 0) d) (e3 : κ2 64 0 = κ 64 0 + 1) (e4 : κ2 64 1 = κ 64 1) (e5 : κ2 64 2 = κ 64 2) : DS P (addD D r d) κ2 := by
  have hc := h.room hr hd hn
  have hq2 : ∀ i : Int, addD D r d (i / 15 - 7) (i % 15 - 7) ↔ (D (i / 15 - 7) (i % 15 - 7) ∨ i = q0) := fun i => by
    unfold addD
    constructor
    · exact fun z => z.imp id (fun w => by omega)
    · exact fun z => z.imp id (fun w => by omega)
  have f1 : q0 / 15 - 7 = r := by omega
  have f2 : q0 % 15 - 7 = d := by omega
  refine ⟨⟨e4.trans h.1.1, e5.trans h.1.2⟩, ?_, ?_, ?_, ?_⟩
  · rw [e0]
    exact bd_up (Q := fun i => D (i / 15 - 7) (i % 15 - 7)) h.2.1 hq2
  · rw [e3, h.2.2.1, ← ct_add1 (p := fun q => dcd (D (q / 15 - 7) (q % 15 - 7))) (q0 := q0) (by rw [f1, f2]; exact dcd_f.mpr hn) (by omega) (by omega)]
    refine ct_congr 225 (by decide) (fun j _ _ => dcd_of ?_)
    rw [Bool.or_eq_true, dcd_t, decide_eq_true_iff]
    exact (hq2 j).symm
  · intro i a b
    rw [e1, e2]
    by_cases e : i = κ 64 0
    · rw [e, fup_eq, fup_eq]; exact Or.inr ⟨rfl, rfl⟩
    · rw [fup_ne e, fup_ne e]; exact Or.inl (h.2.2.2.1 i a (by omega))
  · rintro r1 d1 (z | ⟨rfl, rfl⟩)
    · obtain ⟨g1, i, g2, g3, g4⟩ := h.2.2.2.2 r1 d1 z
      refine ⟨g1, i, ⟨g2.1, by omega⟩, ?_, ?_⟩
      · rw [e1, fup_ne (by omega)]; exact g3
      · rw [e2, fup_ne (by omega)]; exact g4
    · refine ⟨⟨hr, hd⟩, κ 64 0, ⟨hc.1, by omega⟩, ?_, ?_⟩
      · rw [e1, fup_eq]
      · rw [e2, fup_eq]
set_option maxRecDepth 100000 in
set_option maxHeartbeats 4000000 in
theorem k_w2_clear (en : Nat → Nat) (c : Nat → Nat) (κ : St) (P : St) (hp : MI P ∧ CI P κ) : MC (EN en) yX2_clear sX2_clear [.ref (c 12), .ref (c 1)] (fm (cO en c κ)) (fun v w => ∃ κ2 : St, v = none ∧ w = fm (cO en c κ2) ∧ (CI P κ2) ∧ (DS P (fun _ _ => False) κ2) ∧ (fr [60, 61, 62, 64] κ κ2)) := by
  refine MC.of (EN.stb en) [some (.ref (c 12)), some (.ref (c 1)), none] 1 rfl rfl rfl (by simp [Value.category]) (Nat.le_of_ble_eq_true rfl) (fun K hK hR => ?_)
  obtain ⟨hM, hC⟩ := hp
  have hN4 := hM.2.2.1
  obtain ⟨κ0, hκ0⟩ : ∃ κ0 : St, κ0 = κ := ⟨κ, rfl⟩
  have hF : fr [60, 61, 62, 64] κ0 κ := by rw [hκ0]; exact fr.rf _ _
  have loop_2 : ∀ (n0 : Nat) (κ : St) (i : Int), (225 - i).toNat = n0 → (CI P κ) → (0 ≤ i ∧ i ≤ 225) → (fr [60, 61, 62, 64] κ0 κ) → (∀ q, 0 ≤ q → q < i → κ 60 q = 0) → V K sX2_clear 0 0 (fm (cO en c κ)) [some (.ref (c 12)), some (.ref (c 1)), some (.int (zI i))] [] 2 := by
    intro n0
    induction n0 using Nat.strongRecOn with
    | _ n0 ih_2 =>
    intro κ i hm_2 hC hi hF hZ
    refine V_iload_n dX2_clear_2 rfl ?_
    refine V_aload_n dX2_clear_3 rfl ?_
    refine VO_getf (C0 := RX2) (T := TX2) (N := 7) (ci := 2) (fs := dfF c κ) 12 0 iwX2 (by decide) w144 (Or.inl rfl) rfl (at_df) rfl dX2_clear_4 ?_
    refine VO_alen 13 (at_df_known) (fun _ => rfl) dX2_clear_7 ?_
    show V K sX2_clear 0 0 (fm (cO en c κ)) [some (.ref (c 12)), some (.ref (c 1)), some (.int (zI i))] [.int (zI 225), .int (zI i)] 8
    refine V_icmp_ge (tgt := 24) dX2_clear_8 (by decide) ⟨⟨by omega, by omega⟩, ⟨by omega, by omega⟩⟩ (fun c_1 => ?_) (fun c_1 => ?_)
    · refine V_aload_n dX2_clear_24 rfl ?_
      refine V_iconst dX2_clear_25 ?_
      refine VO_putf (C0 := RX2) (T := TX2) (N := 7) (ci := 2) (fs := dfF c κ) 12 4 iwX2 (by decide) w148 (Or.inl rfl) tyX2 tyX2_ok nmX2 rfl rfl (at_df) (Nat.le_of_ble_eq_true rfl) rfl rfl dX2_clear_26 (st_df_count 0) ?_
      refine V_aload_n dX2_clear_29 rfl ?_
      refine V_aload_n dX2_clear_30 rfl ?_
      refine VO_getN (C0 := RX5) (T := TX5) (N := 4) (ci := 4) (fs := prF c (up κ 64 0 0)) 1 1 iwX5 (by decide) hK wn73 rfl (at_pr) rfl dX2_clear_31 ?_
      refine V_eqT (y := zI (P 0 0)) (congrArg zI (congrFun ((((hC).up (by decide))).1 0 (by decide) (by decide)) _)) ?_
      refine VO_putf (C0 := RX2) (T := TX2) (N := 7) (ci := 2) (fs := dfF c (up κ 64 0 0)) 12 5 iwX2 (by decide) w149 (Or.inl rfl) tyX2 tyX2_ok nmX2 rfl rfl (at_df) (Nat.le_of_ble_eq_true rfl) rfl rfl dX2_clear_34 (st_df_rows (P 0 0)) ?_
      refine V_aload_n dX2_clear_37 rfl ?_
      refine V_aload_n dX2_clear_38 rfl ?_
      refine VO_getN (C0 := RX5) (T := TX5) (N := 4) (ci := 4) (fs := prF c (up (up κ 64 0 0) 64 1 (P 0 0))) 1 2 iwX5 (by decide) hK wn76 rfl (at_pr) rfl dX2_clear_39 ?_
      refine V_eqT (y := zI (P 0 1)) (congrArg zI (congrFun ((((((hC).up (by decide))).up (by decide))).1 0 (by decide) (by decide)) _)) ?_
      refine VO_putf (C0 := RX2) (T := TX2) (N := 7) (ci := 2) (fs := dfF c (up (up κ 64 0 0) 64 1 (P 0 0))) 12 6 iwX2 (by decide) w150 (Or.inl rfl) tyX2 tyX2_ok nmX2 rfl rfl (at_df) (Nat.le_of_ble_eq_true rfl) rfl rfl dX2_clear_42 (st_df_columns (P 0 1)) ?_
      refine V_vret hR rfl (Nat.le_of_ble_eq_true rfl) (Nat.le_of_ble_eq_true rfl) dX2_clear_45 ?_
      exact ⟨_, rfl, rfl, ((((((hC).up (by decide))).up (by decide))).up (by decide)), DS.none rfl rfl rfl (fun q a b => hZ q a (by omega)), by rw [← hκ0]; exact ((((((hF).upd (by decide))).upd (by decide))).upd (by decide))⟩
    · refine V_aload_n dX2_clear_11 rfl ?_
      refine VO_getf (C0 := RX2) (T := TX2) (N := 7) (ci := 2) (fs := dfF c κ) 12 0 iwX2 (by decide) w144 (Or.inl rfl) rfl (at_df) rfl dX2_clear_12 ?_
      refine V_iload_n dX2_clear_15 rfl ?_
      refine V_iconst dX2_clear_16 ?_
      refine VO_zast 13 at_df_known ⟨by omega, by omega⟩ (by decide) (by omega) dX2_clear_17 (st_df_known i 0) ?_
      refine V_iinc (L' := [some (.ref (c 12)), some (.ref (c 1)), some (.int (zI (i + 1)))]) dX2_clear_18 (by decide) rfl rfl ?_
      refine V_goto (tgt := 2) dX2_clear_21 (by decide) ?_
      refine ih_2 _ (by omega) (up κ 60 i 0) (i + 1) rfl ?_ ?_ ?_ ?_
      · exact ((hC).up (by decide))
      · omega
      · exact ((hF).upd (by decide))
      · exact fun q a b => by
          show fup (κ 60) i 0 q = 0
          by_cases e : q = i
          · rw [e, fup_eq]
          · rw [fup_ne e]; exact hZ q a (by omega)
  have seg_2 : ∀ (κ : St) (i : Int), (CI P κ) → (0 ≤ i ∧ i ≤ 225) → (fr [60, 61, 62, 64] κ0 κ) → (∀ q, 0 ≤ q → q < i → κ 60 q = 0) → V K sX2_clear 0 0 (fm (cO en c κ)) [some (.ref (c 12)), some (.ref (c 1)), some (.int (zI i))] [] 2 := fun κ i hC hi hF hZ => loop_2 _ κ i rfl hC hi hF hZ
  refine V_iconst dX2_clear_0 ?_
  refine V_istore_n (L' := [some (.ref (c 12)), some (.ref (c 1)), some (.int (zI 0))]) dX2_clear_1 (by decide) rfl ?_
  refine seg_2 κ 0 ?_ ?_ ?_ ?_
  · exact hC
  · omega
  · exact hF
  · exact fun q a b => absurd b (by omega)
set_option maxRecDepth 100000 in
set_option maxHeartbeats 4000000 in
theorem k_w2_addOne (en : Nat → Nat) (c : Nat → Nat) (κ : St) (r : Int) (d : Int) (P : St) (D : Int → Int → Prop) (hp : MI P ∧ CI P κ ∧ DS P D κ ∧ (-7 ≤ r ∧ r ≤ 7) ∧ (-7 ≤ d ∧ d ≤ 7)) : MC (EN en) yX2_addOne sX2_addOne [.ref (c 12), .int (zI r), .int (zI d)] (fm (cO en c κ)) (fun v w => ∃ κ2 : St, v = none ∧ w = fm (cO en c κ2) ∧ (CI P κ2) ∧ (DS P (addD D r d) κ2) ∧ (fr [60, 61, 62, 64] κ κ2)) := by
  refine MC.of (EN.stb en) [some (.ref (c 12)), some (.int (zI r)), some (.int (zI d)), none] 1 rfl rfl rfl (by simp [Value.category]) (Nat.le_of_ble_eq_true rfl) (fun K hK hR => ?_)
  obtain ⟨hM, hC, hp⟩ := hp
  have hN4 := hM.2.2.1
  obtain ⟨hD, hr, hd⟩ := hp
  refine V_iload_n dX2_addOne_0 rfl ?_
  refine V_bipush dX2_addOne_1 (by decide) ?_
  refine V_iadd dX2_addOne_3 ?_
  refine V_iconst dX2_addOne_4 ?_
  refine V_isub dX2_addOne_5 ?_
  refine V_bipush dX2_addOne_6 (by decide) ?_
  refine V_imul dX2_addOne_8 ?_
  refine V_iload_n dX2_addOne_9 rfl ?_
  refine V_iadd dX2_addOne_10 ?_
  refine V_bipush dX2_addOne_11 (by decide) ?_
  refine V_iadd dX2_addOne_13 ?_
  refine V_iconst dX2_addOne_14 ?_
  refine V_isub dX2_addOne_15 ?_
  refine V_istore_n (L' := [some (.ref (c 12)), some (.int (zI r)), some (.int (zI d)), some (.int (zI ((((((r + 8) - 1) * 15) + d) + 8) - 1)))]) dX2_addOne_16 (by decide) rfl ?_
  refine V_aload_n dX2_addOne_17 rfl ?_
  refine VO_getf (C0 := RX2) (T := TX2) (N := 7) (ci := 2) (fs := dfF c κ) 12 0 iwX2 (by decide) w144 (Or.inl rfl) rfl (at_df) rfl dX2_addOne_18 ?_
  refine V_iload_n dX2_addOne_21 rfl ?_
  refine VO_zald 13 at_df_known ⟨by omega, by omega⟩ (by decide) dX2_addOne_22 ?_
  have h6 : κ 60 ((((((r + 8) - 1) * 15) + d) + 8) - 1) = bz (dcd (D r d)) := by
    rw [hD.2.1 _ (by omega) (by omega), show ((((((r + 8) - 1) * 15) + d) + 8) - 1) / 15 - 7 = r by omega, show ((((((r + 8) - 1) * 15) + d) + 8) - 1) % 15 - 7 = d by omega]
  refine V_eqT (y := zI (bz (dcd (D r d)))) (congrArg zI h6) ?_
  refine V_ifc_eq (tgt := 27) dX2_addOne_23 (by decide) (fun c_1 => ?_) (fun c_1 => ?_)
  · have hcn := hD.room hr hd c_1
    refine V_aload_n dX2_addOne_27 rfl ?_
    refine VO_getf (C0 := RX2) (T := TX2) (N := 7) (ci := 2) (fs := dfF c κ) 12 0 iwX2 (by decide) w144 (Or.inl rfl) rfl (at_df) rfl dX2_addOne_28 ?_
    refine V_iload_n dX2_addOne_31 rfl ?_
    refine V_iconst dX2_addOne_32 ?_
    refine VO_zast 13 at_df_known ⟨by omega, by omega⟩ (by decide) (by omega) dX2_addOne_33 (st_df_known ((((((r + 8) - 1) * 15) + d) + 8) - 1) 1) ?_
    refine V_aload_n dX2_addOne_34 rfl ?_
    refine VO_getf (C0 := RX2) (T := TX2) (N := 7) (ci := 2) (fs := dfF c (up κ 60 ((((((r + 8) - 1) * 15) + d) + 8) - 1) 1)) 12 1 iwX2 (by decide) w145 (Or.inl rfl) rfl (at_df) rfl dX2_addOne_35 ?_
    refine V_aload_n dX2_addOne_38 rfl ?_
    refine VO_getf (C0 := RX2) (T := TX2) (N := 7) (ci := 2) (fs := dfF c (up κ 60 ((((((r + 8) - 1) * 15) + d) + 8) - 1) 1)) 12 4 iwX2 (by decide) w148 (Or.inl rfl) rfl (at_df) rfl dX2_addOne_39 ?_
    refine V_eqT (y := zI (κ 64 0)) (rfl) ?_
    refine V_iload_n dX2_addOne_42 rfl ?_
    refine VO_iast 14 at_df_rowDifference ⟨by omega, by omega⟩ (by decide) dX2_addOne_43 (st_df_rowDifference (κ 64 0) r) ?_
    refine V_aload_n dX2_addOne_44 rfl ?_
    refine VO_getf (C0 := RX2) (T := TX2) (N := 7) (ci := 2) (fs := dfF c (up (up κ 60 ((((((r + 8) - 1) * 15) + d) + 8) - 1) 1) 61 (κ 64 0) r)) 12 2 iwX2 (by decide) w146 (Or.inl rfl) rfl (at_df) rfl dX2_addOne_45 ?_
    refine V_aload_n dX2_addOne_48 rfl ?_
    refine VO_getf (C0 := RX2) (T := TX2) (N := 7) (ci := 2) (fs := dfF c (up (up κ 60 ((((((r + 8) - 1) * 15) + d) + 8) - 1) 1) 61 (κ 64 0) r)) 12 4 iwX2 (by decide) w148 (Or.inl rfl) rfl (at_df) rfl dX2_addOne_49 ?_
    refine V_eqT (y := zI (κ 64 0)) (rfl) ?_
    refine V_iload_n dX2_addOne_52 rfl ?_
    refine VO_iast 15 at_df_columnDifference ⟨by omega, by omega⟩ (by decide) dX2_addOne_53 (st_df_columnDifference (κ 64 0) d) ?_
    refine V_aload_n dX2_addOne_54 rfl ?_
    refine V_dup dX2_addOne_55 rfl ?_
    refine VO_getf (C0 := RX2) (T := TX2) (N := 7) (ci := 2) (fs := dfF c (up (up (up κ 60 ((((((r + 8) - 1) * 15) + d) + 8) - 1) 1) 61 (κ 64 0) r) 62 (κ 64 0) d)) 12 4 iwX2 (by decide) w148 (Or.inl rfl) rfl (at_df) rfl dX2_addOne_56 ?_
    refine V_eqT (y := zI (κ 64 0)) (rfl) ?_
    refine V_iconst dX2_addOne_59 ?_
    refine V_iadd dX2_addOne_60 ?_
    refine VO_putf (C0 := RX2) (T := TX2) (N := 7) (ci := 2) (fs := dfF c (up (up (up κ 60 ((((((r + 8) - 1) * 15) + d) + 8) - 1) 1) 61 (κ 64 0) r) 62 (κ 64 0) d)) 12 4 iwX2 (by decide) w148 (Or.inl rfl) tyX2 tyX2_ok nmX2 rfl rfl (at_df) (Nat.le_of_ble_eq_true rfl) rfl rfl dX2_addOne_61 (st_df_count ((κ 64 0) + 1)) ?_
    refine V_vret hR rfl (Nat.le_of_ble_eq_true rfl) (Nat.le_of_ble_eq_true rfl) dX2_addOne_64 ?_
    exact ⟨_, rfl, rfl, ((((((((hC).up (by decide))).up (by decide))).up (by decide))).up (by decide)), hD.add hr hd c_1 (by omega) rfl rfl rfl rfl rfl rfl, ((((fr.rf _ _).upd (by decide)).upd (by decide)).upd (by decide)).upd (by decide)⟩
  · refine V_vret hR rfl (Nat.le_of_ble_eq_true rfl) (Nat.le_of_ble_eq_true rfl) dX2_addOne_26 ?_
    exact ⟨κ, rfl, rfl, hC, hD.congr (fun a b => ⟨Or.inl, fun z => z.elim id (fun w => by rw [w.1, w.2]; exact c_1)⟩), fr.rf _ _⟩

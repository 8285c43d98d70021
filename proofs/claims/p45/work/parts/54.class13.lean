/-! the class: least two rests, least slant -/
def IsT (P : St) (D : Int → Int → Prop) (a b : Int) : Prop := ((1 ≤ a ∧ a ≤ P 0 0) ∧ (1 ≤ b ∧ b ≤ P 0 1)) ∧ tD D a b ∧ ∀ a2 b2, (1 ≤ a2 ∧ a2 ≤ P 0 0) → (1 ≤ b2 ∧ b2 ≤ P 0 1) → tD D a2 b2 → (a * b < a2 * b2 ∨ (a * b = a2 * b2 ∧ a ≤ a2))
def TJ (P : St) (D : Int → Int → Prop) (br bc row col : Int) : Prop := (∀ a2 b2, (1 ≤ a2 ∧ a2 ≤ P 0 0) → (1 ≤ b2 ∧ b2 ≤ P 0 1) → (a2 < row ∨ (a2 = row ∧ b2 < col)) → tD D a2 b2 → (br * bc < a2 * b2 ∨ (br * bc = a2 * b2 ∧ br ≤ a2))) ∧ (br ≤ row ∨ (br = P 0 0 ∧ bc = P 0 1))
theorem TJ.zero {P : St} {D : Int → Int → Prop} : TJ P D (P 0 0) (P 0 1) 1 1 := ⟨fun a2 b2 h1 h2 h3 => by omega, Or.inr ⟨rfl, rfl⟩⟩
theorem TJ.next {P : St} {D : Int → Int → Prop} {br bc row col : Int} (h : TJ P D br bc row col) (hc : P 0 1 < col) : TJ P D br bc (row + 1) 1 := ⟨fun a2 b2 h1 h2 h3 h4 => h.1 a2 b2 h1 h2 (by omega) h4, h.2.imp (fun z => by omega) id⟩
theorem TJ.skip {P : St} {D : Int → Int → Prop} {br bc row col : Int} (h : TJ P D br bc row col) (hr : 1 ≤ row ∧ row ≤ P 0 0) (hc : 1 ≤ col ∧ col ≤ P 0 1) (hp : br * bc ≤ row * col) : TJ P D br bc row (col + 1) := by
  refine ⟨fun a2 b2 h1 h2 h3 h4 => ?_, h.2⟩
  by_cases e : a2 = row ∧ b2 = col
  · rw [e.1, e.2]
    rcases Int.lt_or_eq_of_le hp with h5 | h5
    · exact Or.inl h5
    · refine Or.inr ⟨h5, ?_⟩
      rcases h.2 with h6 | ⟨h6, h7⟩
      · exact h6
      · rw [h6, h7] at h5
        have m := Int.mul_le_mul_of_nonneg_left hc.2 (show 0 ≤ row by omega)
        rw [h6]
        exact Int.le_of_mul_le_mul_right (by omega : P 0 0 * P 0 1 ≤ row * P 0 1) (by omega)
  · exact h.1 a2 b2 h1 h2 (by omega) h4
theorem TJ.no {P : St} {D : Int → Int → Prop} {br bc row col : Int} (h : TJ P D br bc row col) (hn : ¬ tD D row col) : TJ P D br bc row (col + 1) := by
  refine ⟨fun a2 b2 h1 h2 h3 h4 => ?_, h.2⟩
  by_cases e : a2 = row ∧ b2 = col
  · rw [e.1, e.2] at h4; exact absurd h4 hn
  · exact h.1 a2 b2 h1 h2 (by omega) h4
theorem TJ.upd {P : St} {D : Int → Int → Prop} {br bc row col : Int} (h : TJ P D br bc row col) (hp : row * col < br * bc) : TJ P D row col row (col + 1) := by
  refine ⟨fun a2 b2 h1 h2 h3 h4 => ?_, Or.inl (Int.le_refl _)⟩
  by_cases e : a2 = row ∧ b2 = col
  · rw [e.1, e.2]; exact Or.inr ⟨rfl, Int.le_refl _⟩
  · have := h.1 a2 b2 h1 h2 (by omega) h4
    exact Or.inl (by omega)
theorem TJ.done {P : St} {D : Int → Int → Prop} {br bc row col : Int} (h : TJ P D br bc row col) (hr : P 0 0 < row) (hb : (1 ≤ br ∧ br ≤ P 0 0) ∧ 1 ≤ bc ∧ bc ≤ P 0 1) (ht : tD D br bc) : IsT P D br bc := ⟨hb, ht, fun a2 b2 h1 h2 h4 => h.1 a2 b2 h1 h2 (by omega) h4⟩
def TRs (P : St) (D : Int → Int → Prop) (i : Int) (κ2 : St) : Prop := IsT P D (κ2 41 i) (κ2 42 i) ∧ κ2 39 i = 2
def SRs (D : Int → Int → Prop) (i : Int) (κ2 : St) : Prop := IsLst (fun k => sD D (k % 10) (k / 10)) 10 (10 * κ2 40 i + κ2 43 i) ∧ κ2 39 i = 3 ∧ 0 ≤ κ2 43 i ∧ κ2 43 i ≤ 9
set_option maxRecDepth 100000 in
set_option maxHeartbeats 4000000 in
theorem k_w2_findTwoRests (en : Nat → Nat) (c : Nat → Nat) (κ : St) (i : Int) (P : St) (D : Int → Int → Prop) (hp : MI P ∧ CI P κ ∧ DS P D κ ∧ inW κ i ∧ WB κ i ∧ tD D (P 0 0) (P 0 1)) : MC (EN en) yX2_findTwoRests sX2_findTwoRests [.ref (c 12), .ref (c (34 + 8 * Int.toNat i))] (fm (cO en c κ)) (fun v w => ∃ κ2 : St, v = none ∧ w = fm (cO en c κ2) ∧ (CI P κ2) ∧ (frW i κ κ2) ∧ (WB κ2 i) ∧ (TRs P D i κ2)) := by
  refine MC.of (EN.stb en) [some (.ref (c 12)), some (.ref (c (34 + 8 * Int.toNat i))), none, none, none, none] 4 rfl rfl rfl (by simp [Value.category]) (Nat.le_of_ble_eq_true rfl) (fun K hK hR => ?_)
  obtain ⟨hM, hC, hp⟩ := hp
  have hN4 := hM.2.2.1
  obtain ⟨hD, hw, hB, hT⟩ := hp
  obtain ⟨κ0, hκ0⟩ : ∃ κ0 : St, κ0 = κ := ⟨κ, rfl⟩
  have hF : frW i κ0 κ := by rw [hκ0]; exact frW.rf _ _
  have hm1 := hM.1
  have hm2 := hM.2.1
  have loop_13 : ∀ (n0 : Nat) (κ : St) (br : Int) (bc : Int) (row : Int), (P 0 0 + 1 - row).toNat = n0 → (CI P κ) → (frW i κ0 κ) → (DS P D κ) → (inW κ i) → (WB κ i) → ((1 ≤ br ∧ br ≤ P 0 0) ∧ 1 ≤ bc ∧ bc ≤ P 0 1) → (tD D br bc) → (1 ≤ row ∧ row ≤ P 0 0 + 1) → (TJ P D br bc row 1) → V K sX2_findTwoRests 0 0 (fm (cO en c κ)) [some (.ref (c 12)), some (.ref (c (34 + 8 * Int.toNat i))), some (.int (zI br)), some (.int (zI bc)), some (.int (zI row)), none] [] 13 := by
    intro n0
    induction n0 using Nat.strongRecOn with
    | _ n0 ih_13 =>
    intro κ br bc row hm_13 hC hF hD hw hB hbb hT hr hJ
    have loop_25 : ∀ (n0 : Nat) (κ : St) (br : Int) (bc : Int) (col : Int), (P 0 1 + 1 - col).toNat = n0 → (CI P κ) → (frW i κ0 κ) → (DS P D κ) → (inW κ i) → (WB κ i) → ((1 ≤ br ∧ br ≤ P 0 0) ∧ 1 ≤ bc ∧ bc ≤ P 0 1) → (tD D br bc) → (row ≤ P 0 0) → (1 ≤ col ∧ col ≤ P 0 1 + 1) → (TJ P D br bc row col) → V K sX2_findTwoRests 0 0 (fm (cO en c κ)) [some (.ref (c 12)), some (.ref (c (34 + 8 * Int.toNat i))), some (.int (zI br)), some (.int (zI bc)), some (.int (zI row)), some (.int (zI col))] [] 25 := by
      intro n0
      induction n0 using Nat.strongRecOn with
      | _ n0 ih_25 =>
      intro κ br bc col hm_25 hC hF hD hw hB hbb hT hrr hc hJ
      refine V_iload dX2_findTwoRests_25 rfl ?_
      refine V_aload_n dX2_findTwoRests_27 rfl ?_
      refine VO_getf (C0 := RX2) (T := TX2) (N := 7) (ci := 2) (fs := dfF c κ) 12 6 iwX2 (by decide) w150 (Or.inl rfl) rfl (at_df) rfl dX2_findTwoRests_28 ?_
      refine V_eqT (y := zI (P 0 1)) (congrArg zI hD.1.2) ?_
      refine V_icmp_gt (tgt := 73) dX2_findTwoRests_31 (by decide) ⟨⟨by omega, by omega⟩, ⟨by omega, by omega⟩⟩ (fun c_1 => ?_) (fun c_1 => ?_)
      · refine V_iinc (L' := [some (.ref (c 12)), some (.ref (c (34 + 8 * Int.toNat i))), some (.int (zI br)), some (.int (zI bc)), some (.int (zI (row + 1))), some (.int (zI col))]) dX2_findTwoRests_73 (by decide) rfl rfl ?_
        refine V_goto (tgt := 13) dX2_findTwoRests_76 (by decide) ?_
        refine V_mask (L' := [some (.ref (c 12)), some (.ref (c (34 + 8 * Int.toNat i))), some (.int (zI br)), some (.int (zI bc)), some (.int (zI (row + 1))), none]) [true, true, true, true, true, false] rfl ?_
        refine ih_13 _ (by omega) κ br bc (row + 1) rfl ?_ ?_ ?_ ?_ ?_ ?_ ?_ ?_ ?_
        · exact hC
        · exact hF
        · exact hD
        · exact hw
        · exact hB
        · omega
        · exact hT
        · omega
        · exact hJ.next (by omega)
      · have p1 := mulB (a := row) (b := col) (A := 8) (B := 8) (by omega) (by omega) (by omega) (by omega)
        have p2 := mulB (a := br) (b := bc) (A := 8) (B := 8) (by omega) (by omega) (by omega) (by omega)
        refine V_aload_n dX2_findTwoRests_34 rfl ?_
        refine V_iload dX2_findTwoRests_35 rfl ?_
        refine V_iload dX2_findTwoRests_37 rfl ?_
        refine VO_callVF (As := [.int (zI row), .int (zI col)]) (b := c (34 + 8 * Int.toNat i)) (i := 34 + 8 * Int.toNat i) (ci := 7) (fs := wnF en κ i) (T := TX8) (N := 5) (at_wn (hw)) rfl hK (k_w8_becomeTwoRests en c κ i row col (hw)) mokX8_becomeTwoRests w447 w448 w449 ⟨Nat.le_of_ble_eq_true rfl, Nat.le_of_ble_eq_true rfl⟩ rfl (Nat.le_of_ble_eq_true rfl) ⟨Nat.le_of_ble_eq_true rfl, Nat.le_of_ble_eq_true rfl⟩ dX2_findTwoRests_39 (fun v w p_2 => ?_)
        obtain ⟨rfl, rfl⟩ := p_2
        show V K sX2_findTwoRests 0 0 (fm (cO en c (up (up (up κ 39 i ((2 : Nat) : Int)) 41 i row) 42 i col))) [some (.ref (c 12)), some (.ref (c (34 + 8 * Int.toNat i))), some (.int (zI br)), some (.int (zI bc)), some (.int (zI row)), some (.int (zI col))] [] 42
        refine V_iload dX2_findTwoRests_42 rfl ?_
        refine V_iload dX2_findTwoRests_44 rfl ?_
        refine V_imul dX2_findTwoRests_46 ?_
        refine V_iload_n dX2_findTwoRests_47 rfl ?_
        refine V_iload_n dX2_findTwoRests_48 rfl ?_
        refine V_imul dX2_findTwoRests_49 ?_
        refine V_icmp_ge (tgt := 67) dX2_findTwoRests_50 (by decide) ⟨⟨by omega, by omega⟩, ⟨by omega, by omega⟩⟩ (fun c_3 => ?_) (fun c_3 => ?_)
        · refine V_iinc (L' := [some (.ref (c 12)), some (.ref (c (34 + 8 * Int.toNat i))), some (.int (zI br)), some (.int (zI bc)), some (.int (zI row)), some (.int (zI (col + 1)))]) dX2_findTwoRests_67 (by decide) rfl rfl ?_
          refine V_goto (tgt := 25) dX2_findTwoRests_70 (by decide) ?_
          refine ih_25 _ (by omega) (up (up (up κ 39 i ((2 : Nat) : Int)) 41 i row) 42 i col) br bc (col + 1) rfl ?_ ?_ ?_ ?_ ?_ ?_ ?_ ?_ ?_ ?_
          · exact ((((((hC).up (by decide))).up (by decide))).up (by decide))
          · exact ((((((hF).upd (by decide))).upd (by decide))).upd (by decide))
          · exact hD
          · exact hw
          · exact hB.two ⟨hr.1, by omega⟩ ⟨hc.1, by omega⟩
          · omega
          · exact hT
          · omega
          · omega
          · exact hJ.skip ⟨hr.1, hrr⟩ ⟨hc.1, by omega⟩ c_3
        · refine V_aload_n dX2_findTwoRests_53 rfl ?_
          refine V_aload_n dX2_findTwoRests_54 rfl ?_
          refine VO_callVF (As := [.ref (c (34 + 8 * Int.toNat i))]) (b := c 12) (i := 12) (ci := 2) (fs := dfF c (up (up (up κ 39 i ((2 : Nat) : Int)) 41 i row) 42 i col)) (T := TX2) (N := 7) (at_df) rfl hK (k_w2_areKeptApart en c (up (up (up κ 39 i ((2 : Nat) : Int)) 41 i row) 42 i col) i P D ⟨hM, ((((((hC).up (by decide))).up (by decide))).up (by decide)), hD, hw, hB.two ⟨hr.1, by omega⟩ ⟨hc.1, by omega⟩⟩) mokX2_areKeptApart w410 w411 w412 ⟨Nat.le_of_ble_eq_true rfl, Nat.le_of_ble_eq_true rfl⟩ rfl (Nat.le_of_ble_eq_true rfl) ⟨Nat.le_of_ble_eq_true rfl, Nat.le_of_ble_eq_true rfl⟩ dX2_findTwoRests_55 (fun v w p_4 => ?_)
          obtain ⟨rfl, rfl⟩ := p_4
          show V K sX2_findTwoRests 0 0 (fm (cO en c (up (up (up κ 39 i ((2 : Nat) : Int)) 41 i row) 42 i col))) [some (.ref (c 12)), some (.ref (c (34 + 8 * Int.toNat i))), some (.int (zI br)), some (.int (zI bc)), some (.int (zI row)), some (.int (zI col))] [.int (zI (bz (dcd (∀ r d, D r d → kaP (up (up (up κ 39 i ((2 : Nat) : Int)) 41 i row) 42 i col) i r d (P 0 1)))))] 58
          refine V_ifc_eq (tgt := 67) dX2_findTwoRests_58 (by decide) (fun c_5 => ?_) (fun c_5 => ?_)
          · refine V_iinc (L' := [some (.ref (c 12)), some (.ref (c (34 + 8 * Int.toNat i))), some (.int (zI br)), some (.int (zI bc)), some (.int (zI row)), some (.int (zI (col + 1)))]) dX2_findTwoRests_67 (by decide) rfl rfl ?_
            refine V_goto (tgt := 25) dX2_findTwoRests_70 (by decide) ?_
            refine ih_25 _ (by omega) (up (up (up κ 39 i ((2 : Nat) : Int)) 41 i row) 42 i col) br bc (col + 1) rfl ?_ ?_ ?_ ?_ ?_ ?_ ?_ ?_ ?_ ?_
            · exact ((((((hC).up (by decide))).up (by decide))).up (by decide))
            · exact ((((((hF).upd (by decide))).upd (by decide))).upd (by decide))
            · exact hD
            · exact hw
            · exact hB.two ⟨hr.1, by omega⟩ ⟨hc.1, by omega⟩
            · omega
            · exact hT
            · omega
            · omega
            · exact hJ.no (fun z => c_5 ((ka_two hr.1 hc.1).mpr z))
          · refine V_iload dX2_findTwoRests_61 rfl ?_
            refine V_istore_n (L' := [some (.ref (c 12)), some (.ref (c (34 + 8 * Int.toNat i))), some (.int (zI row)), some (.int (zI bc)), some (.int (zI row)), some (.int (zI col))]) dX2_findTwoRests_63 (by decide) rfl ?_
            refine V_iload dX2_findTwoRests_64 rfl ?_
            refine V_istore_n (L' := [some (.ref (c 12)), some (.ref (c (34 + 8 * Int.toNat i))), some (.int (zI row)), some (.int (zI col)), some (.int (zI row)), some (.int (zI col))]) dX2_findTwoRests_66 (by decide) rfl ?_
            refine V_iinc (L' := [some (.ref (c 12)), some (.ref (c (34 + 8 * Int.toNat i))), some (.int (zI row)), some (.int (zI col)), some (.int (zI row)), some (.int (zI (col + 1)))]) dX2_findTwoRests_67 (by decide) rfl rfl ?_
            refine V_goto (tgt := 25) dX2_findTwoRests_70 (by decide) ?_
            refine ih_25 _ (by omega) (up (up (up κ 39 i ((2 : Nat) : Int)) 41 i row) 42 i col) row col (col + 1) rfl ?_ ?_ ?_ ?_ ?_ ?_ ?_ ?_ ?_ ?_
            · exact ((((((hC).up (by decide))).up (by decide))).up (by decide))
            · exact ((((((hF).upd (by decide))).upd (by decide))).upd (by decide))
            · exact hD
            · exact hw
            · exact hB.two ⟨hr.1, by omega⟩ ⟨hc.1, by omega⟩
            · omega
            · exact (ka_two hr.1 hc.1).mp c_5
            · omega
            · omega
            · exact hJ.upd c_3
    have seg_25 : ∀ (κ : St) (br : Int) (bc : Int) (col : Int), (CI P κ) → (frW i κ0 κ) → (DS P D κ) → (inW κ i) → (WB κ i) → ((1 ≤ br ∧ br ≤ P 0 0) ∧ 1 ≤ bc ∧ bc ≤ P 0 1) → (tD D br bc) → (row ≤ P 0 0) → (1 ≤ col ∧ col ≤ P 0 1 + 1) → (TJ P D br bc row col) → V K sX2_findTwoRests 0 0 (fm (cO en c κ)) [some (.ref (c 12)), some (.ref (c (34 + 8 * Int.toNat i))), some (.int (zI br)), some (.int (zI bc)), some (.int (zI row)), some (.int (zI col))] [] 25 := fun κ br bc col hC hF hD hw hB hbb hT hrr hc hJ => loop_25 _ κ br bc col rfl hC hF hD hw hB hbb hT hrr hc hJ
    refine V_iload dX2_findTwoRests_13 rfl ?_
    refine V_aload_n dX2_findTwoRests_15 rfl ?_
    refine VO_getf (C0 := RX2) (T := TX2) (N := 7) (ci := 2) (fs := dfF c κ) 12 5 iwX2 (by decide) w149 (Or.inl rfl) rfl (at_df) rfl dX2_findTwoRests_16 ?_
    refine V_eqT (y := zI (P 0 0)) (congrArg zI hD.1.1) ?_
    refine V_icmp_gt (tgt := 79) dX2_findTwoRests_19 (by decide) ⟨⟨by omega, by omega⟩, ⟨by omega, by omega⟩⟩ (fun c_6 => ?_) (fun c_6 => ?_)
    · refine V_aload_n dX2_findTwoRests_79 rfl ?_
      refine V_iload_n dX2_findTwoRests_80 rfl ?_
      refine V_iload_n dX2_findTwoRests_81 rfl ?_
      refine VO_callVF (As := [.int (zI br), .int (zI bc)]) (b := c (34 + 8 * Int.toNat i)) (i := 34 + 8 * Int.toNat i) (ci := 7) (fs := wnF en κ i) (T := TX8) (N := 5) (at_wn (hw)) rfl hK (k_w8_becomeTwoRests en c κ i br bc (hw)) mokX8_becomeTwoRests w447 w448 w449 ⟨Nat.le_of_ble_eq_true rfl, Nat.le_of_ble_eq_true rfl⟩ rfl (Nat.le_of_ble_eq_true rfl) ⟨Nat.le_of_ble_eq_true rfl, Nat.le_of_ble_eq_true rfl⟩ dX2_findTwoRests_82 (fun v w p_7 => ?_)
      obtain ⟨rfl, rfl⟩ := p_7
      show V K sX2_findTwoRests 0 0 (fm (cO en c (up (up (up κ 39 i ((2 : Nat) : Int)) 41 i br) 42 i bc))) [some (.ref (c 12)), some (.ref (c (34 + 8 * Int.toNat i))), some (.int (zI br)), some (.int (zI bc)), some (.int (zI row)), none] [] 85
      refine V_vret hR rfl (Nat.le_of_ble_eq_true rfl) (Nat.le_of_ble_eq_true rfl) dX2_findTwoRests_85 ?_
      exact ⟨_, rfl, rfl, ((((((hC).up (by decide))).up (by decide))).up (by decide)), by rw [← hκ0]; exact ((((((hF).upd (by decide))).upd (by decide))).upd (by decide)), hB.two ⟨hbb.1.1, by omega⟩ ⟨hbb.2.1, by omega⟩, ⟨by
        have e1 : (up (up (up κ 39 i ((2 : Nat) : Int)) 41 i br) 42 i bc) 41 i = br := fup_eq _ _ _
        have e2 : (up (up (up κ 39 i ((2 : Nat) : Int)) 41 i br) 42 i bc) 42 i = bc := fup_eq _ _ _
        rw [e1, e2]
        exact hJ.done (by omega) hbb hT, fup_eq _ _ _⟩⟩
    · refine V_iconst dX2_findTwoRests_22 ?_
      refine V_istore (L' := [some (.ref (c 12)), some (.ref (c (34 + 8 * Int.toNat i))), some (.int (zI br)), some (.int (zI bc)), some (.int (zI row)), some (.int (zI 1))]) dX2_findTwoRests_23 (by decide) rfl ?_
      refine seg_25 κ br bc 1 ?_ ?_ ?_ ?_ ?_ ?_ ?_ ?_ ?_ ?_
      · exact hC
      · exact hF
      · exact hD
      · exact hw
      · exact hB
      · omega
      · exact hT
      · omega
      · omega
      · exact hJ
  have seg_13 : ∀ (κ : St) (br : Int) (bc : Int) (row : Int), (CI P κ) → (frW i κ0 κ) → (DS P D κ) → (inW κ i) → (WB κ i) → ((1 ≤ br ∧ br ≤ P 0 0) ∧ 1 ≤ bc ∧ bc ≤ P 0 1) → (tD D br bc) → (1 ≤ row ∧ row ≤ P 0 0 + 1) → (TJ P D br bc row 1) → V K sX2_findTwoRests 0 0 (fm (cO en c κ)) [some (.ref (c 12)), some (.ref (c (34 + 8 * Int.toNat i))), some (.int (zI br)), some (.int (zI bc)), some (.int (zI row)), none] [] 13 := fun κ br bc row hC hF hD hw hB hbb hT hr hJ => loop_13 _ κ br bc row rfl hC hF hD hw hB hbb hT hr hJ
  refine V_aload_n dX2_findTwoRests_0 rfl ?_
  refine VO_getf (C0 := RX2) (T := TX2) (N := 7) (ci := 2) (fs := dfF c κ) 12 5 iwX2 (by decide) w149 (Or.inl rfl) rfl (at_df) rfl dX2_findTwoRests_1 ?_
  refine V_eqT (y := zI (P 0 0)) (congrArg zI hD.1.1) ?_
  refine V_istore_n (L' := [some (.ref (c 12)), some (.ref (c (34 + 8 * Int.toNat i))), some (.int (zI (P 0 0))), none, none, none]) dX2_findTwoRests_4 (by decide) rfl ?_
  refine V_aload_n dX2_findTwoRests_5 rfl ?_
  refine VO_getf (C0 := RX2) (T := TX2) (N := 7) (ci := 2) (fs := dfF c κ) 12 6 iwX2 (by decide) w150 (Or.inl rfl) rfl (at_df) rfl dX2_findTwoRests_6 ?_
  refine V_eqT (y := zI (P 0 1)) (congrArg zI hD.1.2) ?_
  refine V_istore_n (L' := [some (.ref (c 12)), some (.ref (c (34 + 8 * Int.toNat i))), some (.int (zI (P 0 0))), some (.int (zI (P 0 1))), none, none]) dX2_findTwoRests_9 (by decide) rfl ?_
  refine V_iconst dX2_findTwoRests_10 ?_
  refine V_istore (L' := [some (.ref (c 12)), some (.ref (c (34 + 8 * Int.toNat i))), some (.int (zI (P 0 0))), some (.int (zI (P 0 1))), some (.int (zI 1)), none]) dX2_findTwoRests_11 (by decide) rfl ?_
  refine seg_13 κ (P 0 0) (P 0 1) 1 ?_ ?_ ?_ ?_ ?_ ?_ ?_ ?_ ?_
  · exact hC
  · exact hF
  · exact hD
  · exact hw
  · exact hB
  · omega
  · exact hT
  · omega
  · exact TJ.zero
set_option maxRecDepth 100000 in
set_option maxHeartbeats 4000000 in
theorem k_w2_findSlant (en : Nat → Nat) (c : Nat → Nat) (κ : St) (i : Int) (P : St) (D : Int → Int → Prop) (k0 : Int) (hp : MI P ∧ CI P κ ∧ DS P D κ ∧ inW κ i ∧ WB κ i ∧ (10 ≤ k0 ∧ k0 / 10 ≤ pt P) ∧ sD D (k0 % 10) (k0 / 10)) : MC (EN en) yX2_findSlant sX2_findSlant [.ref (c 12), .ref (c (34 + 8 * Int.toNat i))] (fm (cO en c κ)) (fun v w => ∃ κ2 : St, v = none ∧ w = fm (cO en c κ2) ∧ (CI P κ2) ∧ (frW i κ κ2) ∧ (WB κ2 i) ∧ (SRs D i κ2)) := by
  refine MC.of (EN.stb en) [some (.ref (c 12)), some (.ref (c (34 + 8 * Int.toNat i))), none, none] 2 rfl rfl rfl (by simp [Value.category]) (Nat.le_of_ble_eq_true rfl) (fun K hK hR => ?_)
  obtain ⟨hM, hC, hp⟩ := hp
  have hN4 := hM.2.2.1
  obtain ⟨hD, hw, hB, hk0, hS⟩ := hp
  obtain ⟨κ0, hκ0⟩ : ∃ κ0 : St, κ0 = κ := ⟨κ, rfl⟩
  have hF : frW i κ0 κ := by rw [hκ0]; exact frW.rf _ _
  have hm1 := hM.1
  have hm2 := hM.2.1
  have hpt := hM.pts
  have loop_2 : ∀ (n0 : Nat) (κ : St) (m : Int), (pt P + 1 - m).toNat = n0 → (CI P κ) → (frW i κ0 κ) → (DS P D κ) → (inW κ i) → (WB κ i) → (1 ≤ m ∧ m ≤ pt P + 1) → (∀ k, 10 ≤ k → k < 10 * m → ¬ sD D (k % 10) (k / 10)) → V K sX2_findSlant 0 0 (fm (cO en c κ)) [some (.ref (c 12)), some (.ref (c (34 + 8 * Int.toNat i))), some (.int (zI m)), none] [] 2 := by
    intro n0
    induction n0 using Nat.strongRecOn with
    | _ n0 ih_2 =>
    intro κ m hm_2 hC hF hD hw hB hm hJ
    have loop_17 : ∀ (n0 : Nat) (κ : St) (l : Int), (10 - l).toNat = n0 → (CI P κ) → (frW i κ0 κ) → (DS P D κ) → (inW κ i) → (WB κ i) → (m ≤ pt P) → (0 ≤ l ∧ l ≤ 10) → (∀ k, 10 ≤ k → k < 10 * m + l → ¬ sD D (k % 10) (k / 10)) → V K sX2_findSlant 0 0 (fm (cO en c κ)) [some (.ref (c 12)), some (.ref (c (34 + 8 * Int.toNat i))), some (.int (zI m)), some (.int (zI l))] [] 17 := by
      intro n0
      induction n0 using Nat.strongRecOn with
      | _ n0 ih_17 =>
      intro κ l hm_17 hC hF hD hw hB hmm hl hJ
      refine V_iload_n dX2_findSlant_17 rfl ?_
      refine V_bipush dX2_findSlant_18 (by decide) ?_
      refine V_icmp_gt (tgt := 44) dX2_findSlant_20 (by decide) ⟨⟨by omega, by omega⟩, ⟨by omega, by omega⟩⟩ (fun c_1 => ?_) (fun c_1 => ?_)
      · refine V_iinc (L' := [some (.ref (c 12)), some (.ref (c (34 + 8 * Int.toNat i))), some (.int (zI (m + 1))), some (.int (zI l))]) dX2_findSlant_44 (by decide) rfl rfl ?_
        refine V_goto (tgt := 2) dX2_findSlant_47 (by decide) ?_
        refine V_mask (L' := [some (.ref (c 12)), some (.ref (c (34 + 8 * Int.toNat i))), some (.int (zI (m + 1))), none]) [true, true, true, false] rfl ?_
        refine ih_2 _ (by omega) κ (m + 1) rfl ?_ ?_ ?_ ?_ ?_ ?_ ?_
        · exact hC
        · exact hF
        · exact hD
        · exact hw
        · exact hB
        · omega
        · exact fun k a b => hJ k a (by omega)
      · refine V_aload_n dX2_findSlant_23 rfl ?_
        refine V_iload_n dX2_findSlant_24 rfl ?_
        refine V_iload_n dX2_findSlant_25 rfl ?_
        refine VO_callVF (As := [.int (zI l), .int (zI m)]) (b := c (34 + 8 * Int.toNat i)) (i := 34 + 8 * Int.toNat i) (ci := 7) (fs := wnF en κ i) (T := TX8) (N := 5) (at_wn (hw)) rfl hK (k_w8_becomeSlant en c κ i l m (hw)) mokX8_becomeSlant w455 w456 w457 ⟨Nat.le_of_ble_eq_true rfl, Nat.le_of_ble_eq_true rfl⟩ rfl (Nat.le_of_ble_eq_true rfl) ⟨Nat.le_of_ble_eq_true rfl, Nat.le_of_ble_eq_true rfl⟩ dX2_findSlant_26 (fun v w p_2 => ?_)
        obtain ⟨rfl, rfl⟩ := p_2
        show V K sX2_findSlant 0 0 (fm (cO en c (up (up (up κ 39 i ((3 : Nat) : Int)) 43 i l) 40 i m))) [some (.ref (c 12)), some (.ref (c (34 + 8 * Int.toNat i))), some (.int (zI m)), some (.int (zI l))] [] 29
        refine V_aload_n dX2_findSlant_29 rfl ?_
        refine V_aload_n dX2_findSlant_30 rfl ?_
        refine VO_callVF (As := [.ref (c (34 + 8 * Int.toNat i))]) (b := c 12) (i := 12) (ci := 2) (fs := dfF c (up (up (up κ 39 i ((3 : Nat) : Int)) 43 i l) 40 i m)) (T := TX2) (N := 7) (at_df) rfl hK (k_w2_areKeptApart en c (up (up (up κ 39 i ((3 : Nat) : Int)) 43 i l) 40 i m) i P D ⟨hM, ((((((hC).up (by decide))).up (by decide))).up (by decide)), hD, hw, hB.slant ⟨hl.1, by omega⟩ ⟨hm.1, by omega⟩⟩) mokX2_areKeptApart w410 w411 w412 ⟨Nat.le_of_ble_eq_true rfl, Nat.le_of_ble_eq_true rfl⟩ rfl (Nat.le_of_ble_eq_true rfl) ⟨Nat.le_of_ble_eq_true rfl, Nat.le_of_ble_eq_true rfl⟩ dX2_findSlant_31 (fun v w p_3 => ?_)
        obtain ⟨rfl, rfl⟩ := p_3
        show V K sX2_findSlant 0 0 (fm (cO en c (up (up (up κ 39 i ((3 : Nat) : Int)) 43 i l) 40 i m))) [some (.ref (c 12)), some (.ref (c (34 + 8 * Int.toNat i))), some (.int (zI m)), some (.int (zI l))] [.int (zI (bz (dcd (∀ r d, D r d → kaP (up (up (up κ 39 i ((3 : Nat) : Int)) 43 i l) 40 i m) i r d (P 0 1)))))] 34
        refine V_ifc_eq (tgt := 38) dX2_findSlant_34 (by decide) (fun c_4 => ?_) (fun c_4 => ?_)
        · refine V_iinc (L' := [some (.ref (c 12)), some (.ref (c (34 + 8 * Int.toNat i))), some (.int (zI m)), some (.int (zI (l + 1)))]) dX2_findSlant_38 (by decide) rfl rfl ?_
          refine V_goto (tgt := 17) dX2_findSlant_41 (by decide) ?_
          refine ih_17 _ (by omega) (up (up (up κ 39 i ((3 : Nat) : Int)) 43 i l) 40 i m) (l + 1) rfl ?_ ?_ ?_ ?_ ?_ ?_ ?_ ?_
          · exact ((((((hC).up (by decide))).up (by decide))).up (by decide))
          · exact ((((((hF).upd (by decide))).upd (by decide))).upd (by decide))
          · exact hD
          · exact hw
          · exact hB.slant ⟨hl.1, by omega⟩ ⟨hm.1, by omega⟩
          · omega
          · omega
          · exact fun k a b => by
              by_cases e : k = 10 * m + l
              · rw [show k % 10 = l by omega, show k / 10 = m by omega]; exact fun z => c_4 ((ka_slant hm.1).mpr z)
              · exact hJ k a (by omega)
        · refine V_vret hR rfl (Nat.le_of_ble_eq_true rfl) (Nat.le_of_ble_eq_true rfl) dX2_findSlant_37 ?_
          refine ⟨_, rfl, rfl, ((((((hC).up (by decide))).up (by decide))).up (by decide)), by rw [← hκ0]; exact ((((((hF).upd (by decide))).upd (by decide))).upd (by decide)), hB.slant ⟨hl.1, by omega⟩ ⟨hm.1, by omega⟩, ?_⟩
          have e1 : (up (up (up κ 39 i ((3 : Nat) : Int)) 43 i l) 40 i m) 40 i = m := fup_eq _ _ _
          have e2 : (up (up (up κ 39 i ((3 : Nat) : Int)) 43 i l) 40 i m) 43 i = l := fup_eq _ _ _
          refine ⟨?_, fup_eq _ _ _, by rw [e2]; omega, by rw [e2]; omega⟩
          rw [e1, e2]
          refine ⟨by omega, ?_, fun j a b => hJ j a (by omega)⟩
          show sD D ((10 * m + l) % 10) ((10 * m + l) / 10)
          rw [show (10 * m + l) % 10 = l by omega, show (10 * m + l) / 10 = m by omega]
          exact (ka_slant hm.1).mp c_4
    have seg_17 : ∀ (κ : St) (l : Int), (CI P κ) → (frW i κ0 κ) → (DS P D κ) → (inW κ i) → (WB κ i) → (m ≤ pt P) → (0 ≤ l ∧ l ≤ 10) → (∀ k, 10 ≤ k → k < 10 * m + l → ¬ sD D (k % 10) (k / 10)) → V K sX2_findSlant 0 0 (fm (cO en c κ)) [some (.ref (c 12)), some (.ref (c (34 + 8 * Int.toNat i))), some (.int (zI m)), some (.int (zI l))] [] 17 := fun κ l hC hF hD hw hB hmm hl hJ => loop_17 _ κ l rfl hC hF hD hw hB hmm hl hJ
    refine V_iload_n dX2_findSlant_2 rfl ?_
    refine V_aload_n dX2_findSlant_3 rfl ?_
    refine VO_getf (C0 := RX2) (T := TX2) (N := 7) (ci := 2) (fs := dfF c κ) 12 5 iwX2 (by decide) w149 (Or.inl rfl) rfl (at_df) rfl dX2_findSlant_4 ?_
    refine V_eqT (y := zI (P 0 0)) (congrArg zI hD.1.1) ?_
    refine V_aload_n dX2_findSlant_7 rfl ?_
    refine VO_getf (C0 := RX2) (T := TX2) (N := 7) (ci := 2) (fs := dfF c κ) 12 6 iwX2 (by decide) w150 (Or.inl rfl) rfl (at_df) rfl dX2_findSlant_8 ?_
    refine V_eqT (y := zI (P 0 1)) (congrArg zI hD.1.2) ?_
    refine V_imul dX2_findSlant_11 ?_
    refine V_eqT (y := zI (pt P)) (rfl) ?_
    refine V_icmp_gt (tgt := 50) dX2_findSlant_12 (by decide) ⟨⟨by omega, by omega⟩, ⟨by omega, by omega⟩⟩ (fun c_5 => ?_) (fun c_5 => ?_)
    · refine V_vret hR rfl (Nat.le_of_ble_eq_true rfl) (Nat.le_of_ble_eq_true rfl) dX2_findSlant_50 ?_
      exact absurd hS (hJ k0 hk0.1 (by omega))
    · refine V_iconst dX2_findSlant_15 ?_
      refine V_istore_n (L' := [some (.ref (c 12)), some (.ref (c (34 + 8 * Int.toNat i))), some (.int (zI m)), some (.int (zI 0))]) dX2_findSlant_16 (by decide) rfl ?_
      refine seg_17 κ 0 ?_ ?_ ?_ ?_ ?_ ?_ ?_ ?_
      · exact hC
      · exact hF
      · exact hD
      · exact hw
      · exact hB
      · omega
      · omega
      · exact fun k a b => hJ k a (by omega)
  have seg_2 : ∀ (κ : St) (m : Int), (CI P κ) → (frW i κ0 κ) → (DS P D κ) → (inW κ i) → (WB κ i) → (1 ≤ m ∧ m ≤ pt P + 1) → (∀ k, 10 ≤ k → k < 10 * m → ¬ sD D (k % 10) (k / 10)) → V K sX2_findSlant 0 0 (fm (cO en c κ)) [some (.ref (c 12)), some (.ref (c (34 + 8 * Int.toNat i))), some (.int (zI m)), none] [] 2 := fun κ m hC hF hD hw hB hm hJ => loop_2 _ κ m rfl hC hF hD hw hB hm hJ
  refine V_iconst dX2_findSlant_0 ?_
  refine V_istore_n (L' := [some (.ref (c 12)), some (.ref (c (34 + 8 * Int.toNat i))), some (.int (zI 1)), none]) dX2_findSlant_1 (by decide) rfl ?_
  refine seg_2 κ 1 ?_ ?_ ?_ ?_ ?_ ?_ ?_
  · exact hC
  · exact hF
  · exact hD
  · exact hw
  · exact hB
  · omega
  · exact fun k a b => by omega

/-! the class: differences of two statements -/
def PQ (P : St) (bw cw s o x y : Int) : Prop := (0 ≤ x ∧ x < pt P) ∧ (0 ≤ y ∧ y < pt P) ∧ (s = o → x < y) ∧ cf P bw cw (s * pt P + x) (o * pt P + y) = true
def gD (P : St) (bw cw s o : Int) (D : Int → Int → Prop) : Int → Int → Prop := fun r d => D r d ∨ ∃ x y, PQ P bw cw s o x y ∧ dR P x y = r ∧ dC P x y = d
def gDc (P : St) (bw cw s o : Int) (D : Int → Int → Prop) (xa yb : Int) : Int → Int → Prop := fun r d => D r d ∨ ∃ x y, (PQ P bw cw s o x y ∧ dR P x y = r ∧ dC P x y = d) ∧ (x < xa ∨ (x = xa ∧ y < yb))
theorem gDc_step {P : St} {bw cw s o : Int} {D : Int → Int → Prop} {xa yb r d : Int} : gDc P bw cw s o D xa (yb + 1) r d ↔ (gDc P bw cw s o D xa yb r d ∨ (PQ P bw cw s o xa yb ∧ dR P xa yb = r ∧ dC P xa yb = d)) := by
  constructor
  · rintro (h | ⟨x, y, h1, h2⟩)
    · exact Or.inl (Or.inl h)
    · by_cases e : x = xa ∧ y = yb
      · rw [e.1, e.2] at h1; exact Or.inr h1
      · exact Or.inl (Or.inr ⟨x, y, h1, by omega⟩)
  · rintro ((h | ⟨x, y, h1, h2⟩) | h)
    · exact Or.inl h
    · exact Or.inr ⟨x, y, h1, by omega⟩
    · exact Or.inr ⟨xa, yb, h, by omega⟩
theorem gDc_next {P : St} {bw cw s o : Int} {D : Int → Int → Prop} {xa r d : Int} : gDc P bw cw s o D xa (pt P) r d ↔ gDc P bw cw s o D (xa + 1) 0 r d := by
  constructor
  · rintro (h | ⟨x, y, h1, h2⟩)
    · exact Or.inl h
    · exact Or.inr ⟨x, y, h1, by omega⟩
  · rintro (h | ⟨x, y, h1, h2⟩)
    · exact Or.inl h
    · have := h1.1.2.1
      exact Or.inr ⟨x, y, h1, by omega⟩
theorem gDc_skip {P : St} {bw cw s o : Int} {D : Int → Int → Prop} {xa r d : Int} (hso : s = o) : gDc P bw cw s o D xa 0 r d ↔ gDc P bw cw s o D xa (xa + 1) r d := by
  constructor
  · rintro (h | ⟨x, y, h1, h2⟩)
    · exact Or.inl h
    · have := h1.1.2.1
      exact Or.inr ⟨x, y, h1, by omega⟩
  · rintro (h | ⟨x, y, h1, h2⟩)
    · exact Or.inl h
    · have := h1.1.2.2.1 hso
      exact Or.inr ⟨x, y, h1, by omega⟩
theorem gDc_0 {P : St} {bw cw s o : Int} {D : Int → Int → Prop} {r d : Int} : D r d ↔ gDc P bw cw s o D 0 0 r d := by
  constructor
  · exact Or.inl
  · rintro (h | ⟨x, y, h1, h2⟩)
    · exact h
    · have := h1.1.1
      have := h1.1.2.1
      omega
theorem gDc_end {P : St} {bw cw s o : Int} {D : Int → Int → Prop} {r d : Int} : gDc P bw cw s o D (pt P) 0 r d ↔ gD P bw cw s o D r d := by
  constructor
  · rintro (h | ⟨x, y, h1, -⟩)
    · exact Or.inl h
    · exact Or.inr ⟨x, y, h1⟩
  · rintro (h | ⟨x, y, h1⟩)
    · exact Or.inl h
    · have := h1.1.1
      exact Or.inr ⟨x, y, h1, by omega⟩
set_option maxRecDepth 100000 in
set_option maxHeartbeats 4000000 in
theorem k_w2_add (en : Nat → Nat) (c : Nat → Nat) (κ : St) (s : Int) (o : Int) (P : St) (bw cw : Int) (D : Int → Int → Prop) (hp : MI P ∧ CI P κ ∧ Arr P bw cw κ ∧ DS P D κ ∧ (0 ≤ s ∧ s < P 0 2) ∧ (0 ≤ o ∧ o < P 0 2)) : MC (EN en) yX2_add sX2_add [.ref (c 12), .ref (c 1), .ref (c 2), .int (zI s), .int (zI o)] (fm (cO en c κ)) (fun v w => ∃ κ2 : St, v = none ∧ w = fm (cO en c κ2) ∧ (CI P κ2) ∧ (DS P (gD P bw cw s o D) κ2) ∧ (fr [60, 61, 62, 64] κ κ2)) := by
  refine MC.of (EN.stb en) [some (.ref (c 12)), some (.ref (c 1)), some (.ref (c 2)), some (.int (zI s)), some (.int (zI o)), none, none, none, none] 4 rfl rfl rfl (by simp [Value.category]) (Nat.le_of_ble_eq_true rfl) (fun K hK hR => ?_)
  obtain ⟨hM, hC, hp⟩ := hp
  have hN4 := hM.2.2.1
  obtain ⟨hA, hD, hs, ho⟩ := hp
  obtain ⟨κ0, hκ0⟩ : ∃ κ0 : St, κ0 = κ := ⟨κ, rfl⟩
  have hF : fr [60, 61, 62, 64] κ0 κ := by rw [hκ0]; exact fr.rf _ _
  have hpt := hM.pts
  have hal := hM.als
  have s1 : (s + 1) * pt P = s * pt P + pt P := by rw [Int.add_mul, Int.one_mul]
  have o1 : (o + 1) * pt P = o * pt P + pt P := by rw [Int.add_mul, Int.one_mul]
  have c1s := comp_eq hM hs.1 hs.2 (show (0 : Int) ≤ 0 by omega) (show 0 < pt P by omega)
  have c2s := comp_eq hM hs.1 hs.2 (show 0 ≤ pt P - 1 by omega) (show pt P - 1 < pt P by omega)
  have c1o := comp_eq hM ho.1 ho.2 (show (0 : Int) ≤ 0 by omega) (show 0 < pt P by omega)
  have c2o := comp_eq hM ho.1 ho.2 (show 0 ≤ pt P - 1 by omega) (show pt P - 1 < pt P by omega)
  rw [← hκ0] at hA
  have loop_17 : ∀ (n0 : Nat) (κ : St) (a : Int), (s * pt P + pt P - a).toNat = n0 → (CI P κ) → (s * pt P ≤ a ∧ a ≤ s * pt P + pt P) → (fr [60, 61, 62, 64] κ0 κ) → (DS P (gDc P bw cw s o D (a - s * pt P) 0) κ) → V K sX2_add 0 0 (fm (cO en c κ)) [some (.ref (c 12)), some (.ref (c 1)), some (.ref (c 2)), some (.int (zI s)), some (.int (zI o)), some (.int (zI ((o + 1) * pt P))), some (.int (zI a)), none, none] [] 17 := by
    intro n0
    induction n0 using Nat.strongRecOn with
    | _ n0 ih_17 =>
    intro κ a hm_17 hC ha hF hD
    have loop_54 : ∀ (n0 : Nat) (κ : St) (b : Int), (o * pt P + pt P - b).toNat = n0 → (CI P κ) → (a < s * pt P + pt P) → (o * pt P ≤ b ∧ b ≤ o * pt P + pt P) → (s = o → a < b) → (fr [60, 61, 62, 64] κ0 κ) → (DS P (gDc P bw cw s o D (a - s * pt P) (b - o * pt P)) κ) → V K sX2_add 0 0 (fm (cO en c κ)) [some (.ref (c 12)), some (.ref (c 1)), some (.ref (c 2)), some (.int (zI s)), some (.int (zI o)), some (.int (zI ((o + 1) * pt P))), some (.int (zI a)), none, some (.int (zI b))] [] 54 := by
      intro n0
      induction n0 using Nat.strongRecOn with
      | _ n0 ih_54 =>
      intro κ b hm_54 hC haa hb hso hF hD
      refine V_iload dX2_add_54 rfl ?_
      refine V_iload dX2_add_56 rfl ?_
      refine V_icmp_ge (tgt := 112) dX2_add_58 (by decide) ⟨⟨by omega, by omega⟩, ⟨by omega, by omega⟩⟩ (fun c_1 => ?_) (fun c_1 => ?_)
      · refine V_iinc (L' := [some (.ref (c 12)), some (.ref (c 1)), some (.ref (c 2)), some (.int (zI s)), some (.int (zI o)), some (.int (zI ((o + 1) * pt P))), some (.int (zI (a + 1))), none, some (.int (zI b))]) dX2_add_112 (by decide) rfl rfl ?_
        refine V_goto (tgt := 17) dX2_add_115 (by decide) ?_
        refine V_mask (L' := [some (.ref (c 12)), some (.ref (c 1)), some (.ref (c 2)), some (.int (zI s)), some (.int (zI o)), some (.int (zI ((o + 1) * pt P))), some (.int (zI (a + 1))), none, none]) [true, true, true, true, true, true, true, false, false] rfl ?_
        refine ih_17 _ (by omega) κ (a + 1) rfl ?_ ?_ ?_ ?_
        · exact hC
        · omega
        · exact hF
        · exact hD.congr (fun r d => by rw [show b - o * pt P = pt P by omega, show a + 1 - s * pt P = (a - s * pt P) + 1 by omega]; exact gDc_next)
      · have qa := comp_eq hM hs.1 hs.2 (p := a - s * pt P) (by omega) (by omega)
        have qb := comp_eq hM ho.1 ho.2 (p := b - o * pt P) (by omega) (by omega)
        rw [show s * pt P + (a - s * pt P) = a by omega] at qa
        rw [show o * pt P + (b - o * pt P) = b by omega] at qb
        have ra := place_rc hM (p := a % pt P) (by rw [qa.2.2.1]; omega) (by rw [qa.2.2.1]; omega)
        have rb := place_rc hM (p := b % pt P) (by rw [qb.2.2.1]; omega) (by rw [qb.2.2.1]; omega)
        have hm1 := hM.1
        have hm2 := hM.2.1
        refine V_aload_n dX2_add_61 rfl ?_
        refine V_iload dX2_add_62 rfl ?_
        refine V_iload dX2_add_64 rfl ?_
        refine VO_callVF (As := [.int (zI a), .int (zI b)]) (b := c 2) (i := 2) (ci := 8) (fs := wkF c κ) (T := TX9) (N := 10) (at_wk) rfl hK (k_w9_inConflict en c κ a b P bw cw ⟨hM, hC, hA.fr hF (by decide), ⟨by omega, by omega⟩, ⟨by omega, by omega⟩⟩) mokX9_inConflict w378 w379 w380 ⟨Nat.le_of_ble_eq_true rfl, Nat.le_of_ble_eq_true rfl⟩ rfl (Nat.le_of_ble_eq_true rfl) ⟨Nat.le_of_ble_eq_true rfl, Nat.le_of_ble_eq_true rfl⟩ dX2_add_66 (fun v w p_2 => ?_)
        obtain ⟨rfl, rfl⟩ := p_2
        show V K sX2_add 0 0 (fm (cO en c κ)) [some (.ref (c 12)), some (.ref (c 1)), some (.ref (c 2)), some (.int (zI s)), some (.int (zI o)), some (.int (zI ((o + 1) * pt P))), some (.int (zI a)), none, some (.int (zI b))] [.int (zI (bz (cf P bw cw a b)))] 69
        refine V_ifb_eq (tgt := 106) dX2_add_69 (by decide) (fun c_3 => ?_) (fun c_3 => ?_)
        · refine V_iinc (L' := [some (.ref (c 12)), some (.ref (c 1)), some (.ref (c 2)), some (.int (zI s)), some (.int (zI o)), some (.int (zI ((o + 1) * pt P))), some (.int (zI a)), none, some (.int (zI (b + 1)))]) dX2_add_106 (by decide) rfl rfl ?_
          refine V_goto (tgt := 54) dX2_add_109 (by decide) ?_
          refine ih_54 _ (by omega) κ (b + 1) rfl ?_ ?_ ?_ ?_ ?_ ?_
          · exact hC
          · omega
          · omega
          · omega
          · exact hF
          · exact hD.congr (fun r d => by
              rw [show b + 1 - o * pt P = (b - o * pt P) + 1 by omega, gDc_step]
              refine ⟨Or.inl, fun z => z.elim id (fun w => ?_)⟩
              have w4 := w.1.2.2.2
              rw [show s * pt P + (a - s * pt P) = a by omega, show o * pt P + (b - o * pt P) = b by omega, c_3] at w4
              cases w4)
        · refine V_aload_n dX2_add_72 rfl ?_
          refine V_aload_n dX2_add_73 rfl ?_
          refine VO_getN (C0 := RX9) (T := TX9) (N := 10) (ci := 8) (fs := wkF c κ) 2 1 iwX9 (by decide) hK wn102 rfl (at_wk) rfl dX2_add_74 ?_
          refine V_iload dX2_add_77 rfl ?_
          refine VO_iald 4 at_wk_row ⟨by omega, by omega⟩ (by decide) dX2_add_79 ?_
          refine V_eqT (y := zI (b % pt P / P 0 1)) (congrArg zI ((congrFun (hF 52 (by decide)) b).trans (hA.2.1 b (by omega) (by omega)).1.2.1)) ?_
          refine V_aload_n dX2_add_80 rfl ?_
          refine VO_getN (C0 := RX9) (T := TX9) (N := 10) (ci := 8) (fs := wkF c κ) 2 1 iwX9 (by decide) hK wn102 rfl (at_wk) rfl dX2_add_81 ?_
          refine V_iload dX2_add_84 rfl ?_
          refine VO_iald 4 at_wk_row ⟨by omega, by omega⟩ (by decide) dX2_add_86 ?_
          refine V_eqT (y := zI (a % pt P / P 0 1)) (congrArg zI ((congrFun (hF 52 (by decide)) a).trans (hA.2.1 a (by omega) (by omega)).1.2.1)) ?_
          refine V_isub dX2_add_87 ?_
          refine V_aload_n dX2_add_88 rfl ?_
          refine VO_getN (C0 := RX9) (T := TX9) (N := 10) (ci := 8) (fs := wkF c κ) 2 2 iwX9 (by decide) hK wn105 rfl (at_wk) rfl dX2_add_89 ?_
          refine V_iload dX2_add_92 rfl ?_
          refine VO_iald 5 at_wk_column ⟨by omega, by omega⟩ (by decide) dX2_add_94 ?_
          refine V_eqT (y := zI (b % pt P % P 0 1)) (congrArg zI ((congrFun (hF 53 (by decide)) b).trans (hA.2.1 b (by omega) (by omega)).1.2.2)) ?_
          refine V_aload_n dX2_add_95 rfl ?_
          refine VO_getN (C0 := RX9) (T := TX9) (N := 10) (ci := 8) (fs := wkF c κ) 2 2 iwX9 (by decide) hK wn105 rfl (at_wk) rfl dX2_add_96 ?_
          refine V_iload dX2_add_99 rfl ?_
          refine VO_iald 5 at_wk_column ⟨by omega, by omega⟩ (by decide) dX2_add_101 ?_
          refine V_eqT (y := zI (a % pt P % P 0 1)) (congrArg zI ((congrFun (hF 53 (by decide)) a).trans (hA.2.1 a (by omega) (by omega)).1.2.2)) ?_
          refine V_isub dX2_add_102 ?_
          refine VO_callVF (As := [.int (zI ((b % pt P / P 0 1) - (a % pt P / P 0 1))), .int (zI ((b % pt P % P 0 1) - (a % pt P % P 0 1)))]) (b := c 12) (i := 12) (ci := 2) (fs := dfF c κ) (T := TX2) (N := 7) (at_df) rfl hK (k_w2_addOne en c κ ((b % pt P / P 0 1) - (a % pt P / P 0 1)) ((b % pt P % P 0 1) - (a % pt P % P 0 1)) P (gDc P bw cw s o D (a - s * pt P) (b - o * pt P)) ⟨hM, hC, hD, ⟨by omega, by omega⟩, ⟨by omega, by omega⟩⟩) mokX2_addOne w386 w388 wps0_7 ⟨Nat.le_of_ble_eq_true rfl, Nat.le_of_ble_eq_true rfl⟩ rfl (Nat.le_of_ble_eq_true rfl) ⟨Nat.le_of_ble_eq_true rfl, Nat.le_of_ble_eq_true rfl⟩ dX2_add_103 (fun v w p_4 => ?_)
          obtain ⟨κ_5, rfl, rfl, q_6, q_7, q_8⟩ := p_4
          show V K sX2_add 0 0 (fm (cO en c κ_5)) [some (.ref (c 12)), some (.ref (c 1)), some (.ref (c 2)), some (.int (zI s)), some (.int (zI o)), some (.int (zI ((o + 1) * pt P))), some (.int (zI a)), none, some (.int (zI b))] [] 106
          refine V_iinc (L' := [some (.ref (c 12)), some (.ref (c 1)), some (.ref (c 2)), some (.int (zI s)), some (.int (zI o)), some (.int (zI ((o + 1) * pt P))), some (.int (zI a)), none, some (.int (zI (b + 1)))]) dX2_add_106 (by decide) rfl rfl ?_
          refine V_goto (tgt := 54) dX2_add_109 (by decide) ?_
          refine ih_54 _ (by omega) κ_5 (b + 1) rfl ?_ ?_ ?_ ?_ ?_ ?_
          · exact q_6
          · omega
          · omega
          · omega
          · exact ((hF).tr ((q_8).mono (by decide)))
          · exact DS.congr q_7 (fun r d => by
              rw [show b + 1 - o * pt P = (b - o * pt P) + 1 by omega, gDc_step, qa.2.2.1, qb.2.2.1]
              exact or_congr Iff.rfl ⟨fun w => ⟨⟨by omega, by omega, fun e => by have := hso e; rw [← e]; omega, by rw [show s * pt P + (a - s * pt P) = a by omega, show o * pt P + (b - o * pt P) = b by omega]; exact c_3⟩, w.1.symm, w.2.symm⟩, fun w => ⟨w.2.1.symm, w.2.2.symm⟩⟩)
    have seg_54 : ∀ (κ : St) (b : Int), (CI P κ) → (a < s * pt P + pt P) → (o * pt P ≤ b ∧ b ≤ o * pt P + pt P) → (s = o → a < b) → (fr [60, 61, 62, 64] κ0 κ) → (DS P (gDc P bw cw s o D (a - s * pt P) (b - o * pt P)) κ) → V K sX2_add 0 0 (fm (cO en c κ)) [some (.ref (c 12)), some (.ref (c 1)), some (.ref (c 2)), some (.int (zI s)), some (.int (zI o)), some (.int (zI ((o + 1) * pt P))), some (.int (zI a)), none, some (.int (zI b))] [] 54 := fun κ b hC haa hb hso hF hD => loop_54 _ κ b rfl hC haa hb hso hF hD
    refine V_iload dX2_add_17 rfl ?_
    refine V_aload_n dX2_add_19 rfl ?_
    refine V_iload_n dX2_add_20 rfl ?_
    refine V_iconst dX2_add_21 ?_
    refine V_iadd dX2_add_22 ?_
    refine VO_callVF (As := [.int (zI (s + 1))]) (b := c 1) (i := 1) (ci := 4) (fs := prF c κ) (T := TX5) (N := 4) (at_pr) rfl hK (k_w5_firstCell en c κ (s + 1) P ⟨hM, hC, by first | assumption | omega | exact ⟨by omega, by omega⟩ | exact ⟨⟨by omega, by omega⟩, by omega, by omega⟩ | exact ⟨⟨by omega, by omega⟩, ⟨by omega, by omega⟩⟩ | exact ⟨⟨by omega, by omega⟩, ⟨by omega, by omega⟩, by omega, by omega⟩⟩) mokX5_firstCell w377 w305 w306 ⟨Nat.le_of_ble_eq_true rfl, Nat.le_of_ble_eq_true rfl⟩ rfl (Nat.le_of_ble_eq_true rfl) ⟨Nat.le_of_ble_eq_true rfl, Nat.le_of_ble_eq_true rfl⟩ dX2_add_23 (fun v w p_9 => ?_)
    obtain ⟨rfl, rfl⟩ := p_9
    show V K sX2_add 0 0 (fm (cO en c κ)) [some (.ref (c 12)), some (.ref (c 1)), some (.ref (c 2)), some (.int (zI s)), some (.int (zI o)), some (.int (zI ((o + 1) * pt P))), some (.int (zI a)), none, none] [.int (zI ((s + 1) * pt P)), .int (zI a)] 26
    refine V_icmp_ge (tgt := 118) dX2_add_26 (by decide) ⟨⟨by omega, by omega⟩, ⟨by omega, by omega⟩⟩ (fun c_10 => ?_) (fun c_10 => ?_)
    · refine V_vret hR rfl (Nat.le_of_ble_eq_true rfl) (Nat.le_of_ble_eq_true rfl) dX2_add_118 ?_
      exact ⟨κ, rfl, rfl, hC, hD.congr (fun r d => by rw [show a - s * pt P = pt P by omega]; exact gDc_end), by rw [← hκ0]; exact hF⟩
    · refine V_iload_n dX2_add_29 rfl ?_
      refine V_iload dX2_add_30 rfl ?_
      refine V_icmp_ne (tgt := 42) dX2_add_32 (by decide) ⟨⟨by omega, by omega⟩, ⟨by omega, by omega⟩⟩ (fun c_11 => ?_) (fun c_11 => ?_)
      · refine V_aload_n dX2_add_42 rfl ?_
        refine V_iload dX2_add_43 rfl ?_
        refine VO_callVF (As := [.int (zI o)]) (b := c 1) (i := 1) (ci := 4) (fs := prF c κ) (T := TX5) (N := 4) (at_pr) rfl hK (k_w5_firstCell en c κ o P ⟨hM, hC, by first | assumption | omega | exact ⟨by omega, by omega⟩ | exact ⟨⟨by omega, by omega⟩, by omega, by omega⟩ | exact ⟨⟨by omega, by omega⟩, ⟨by omega, by omega⟩⟩ | exact ⟨⟨by omega, by omega⟩, ⟨by omega, by omega⟩, by omega, by omega⟩⟩) mokX5_firstCell w377 w305 w306 ⟨Nat.le_of_ble_eq_true rfl, Nat.le_of_ble_eq_true rfl⟩ rfl (Nat.le_of_ble_eq_true rfl) ⟨Nat.le_of_ble_eq_true rfl, Nat.le_of_ble_eq_true rfl⟩ dX2_add_45 (fun v w p_12 => ?_)
        obtain ⟨rfl, rfl⟩ := p_12
        show V K sX2_add 0 0 (fm (cO en c κ)) [some (.ref (c 12)), some (.ref (c 1)), some (.ref (c 2)), some (.int (zI s)), some (.int (zI o)), some (.int (zI ((o + 1) * pt P))), some (.int (zI a)), none, none] [.int (zI (o * pt P))] 48
        refine V_istore (L' := [some (.ref (c 12)), some (.ref (c 1)), some (.ref (c 2)), some (.int (zI s)), some (.int (zI o)), some (.int (zI ((o + 1) * pt P))), some (.int (zI a)), some (.int (zI (o * pt P))), none]) dX2_add_48 (by decide) rfl ?_
        refine V_iload dX2_add_50 rfl ?_
        refine V_istore (L' := [some (.ref (c 12)), some (.ref (c 1)), some (.ref (c 2)), some (.int (zI s)), some (.int (zI o)), some (.int (zI ((o + 1) * pt P))), some (.int (zI a)), some (.int (zI (o * pt P))), some (.int (zI (o * pt P)))]) dX2_add_52 (by decide) rfl ?_
        refine V_mask (L' := [some (.ref (c 12)), some (.ref (c 1)), some (.ref (c 2)), some (.int (zI s)), some (.int (zI o)), some (.int (zI ((o + 1) * pt P))), some (.int (zI a)), none, some (.int (zI (o * pt P)))]) [true, true, true, true, true, true, true, false, true] rfl ?_
        refine seg_54 κ (o * pt P) ?_ ?_ ?_ ?_ ?_ ?_
        · exact hC
        · omega
        · omega
        · exact fun e => absurd e c_11
        · exact hF
        · rw [Int.sub_self]; exact hD
      · refine V_iload dX2_add_35 rfl ?_
        refine V_iconst dX2_add_37 ?_
        refine V_iadd dX2_add_38 ?_
        refine V_goto (tgt := 48) dX2_add_39 (by decide) ?_
        refine V_istore (L' := [some (.ref (c 12)), some (.ref (c 1)), some (.ref (c 2)), some (.int (zI s)), some (.int (zI o)), some (.int (zI ((o + 1) * pt P))), some (.int (zI a)), some (.int (zI (a + 1))), none]) dX2_add_48 (by decide) rfl ?_
        refine V_iload dX2_add_50 rfl ?_
        refine V_istore (L' := [some (.ref (c 12)), some (.ref (c 1)), some (.ref (c 2)), some (.int (zI s)), some (.int (zI o)), some (.int (zI ((o + 1) * pt P))), some (.int (zI a)), some (.int (zI (a + 1))), some (.int (zI (a + 1)))]) dX2_add_52 (by decide) rfl ?_
        refine V_mask (L' := [some (.ref (c 12)), some (.ref (c 1)), some (.ref (c 2)), some (.int (zI s)), some (.int (zI o)), some (.int (zI ((o + 1) * pt P))), some (.int (zI a)), none, some (.int (zI (a + 1)))]) [true, true, true, true, true, true, true, false, true] rfl ?_
        refine seg_54 κ (a + 1) ?_ ?_ ?_ ?_ ?_ ?_
        · exact hC
        · omega
        · rw [show o = s by omega]; omega
        · exact fun _ => by omega
        · exact hF
        · exact hD.congr (fun r d => by rw [show a + 1 - o * pt P = (a - s * pt P) + 1 by rw [show o = s by omega]; omega]; exact gDc_skip (by omega))
  have seg_17 : ∀ (κ : St) (a : Int), (CI P κ) → (s * pt P ≤ a ∧ a ≤ s * pt P + pt P) → (fr [60, 61, 62, 64] κ0 κ) → (DS P (gDc P bw cw s o D (a - s * pt P) 0) κ) → V K sX2_add 0 0 (fm (cO en c κ)) [some (.ref (c 12)), some (.ref (c 1)), some (.ref (c 2)), some (.int (zI s)), some (.int (zI o)), some (.int (zI ((o + 1) * pt P))), some (.int (zI a)), none, none] [] 17 := fun κ a hC ha hF hD => loop_17 _ κ a rfl hC ha hF hD
  refine V_aload_n dX2_add_0 rfl ?_
  refine V_iload dX2_add_1 rfl ?_
  refine V_iconst dX2_add_3 ?_
  refine V_iadd dX2_add_4 ?_
  refine VO_callVF (As := [.int (zI (o + 1))]) (b := c 1) (i := 1) (ci := 4) (fs := prF c κ) (T := TX5) (N := 4) (at_pr) rfl hK (k_w5_firstCell en c κ (o + 1) P ⟨hM, hC, by first | assumption | omega | exact ⟨by omega, by omega⟩ | exact ⟨⟨by omega, by omega⟩, by omega, by omega⟩ | exact ⟨⟨by omega, by omega⟩, ⟨by omega, by omega⟩⟩ | exact ⟨⟨by omega, by omega⟩, ⟨by omega, by omega⟩, by omega, by omega⟩⟩) mokX5_firstCell w377 w305 w306 ⟨Nat.le_of_ble_eq_true rfl, Nat.le_of_ble_eq_true rfl⟩ rfl (Nat.le_of_ble_eq_true rfl) ⟨Nat.le_of_ble_eq_true rfl, Nat.le_of_ble_eq_true rfl⟩ dX2_add_5 (fun v w p_13 => ?_)
  obtain ⟨rfl, rfl⟩ := p_13
  show V K sX2_add 0 0 (fm (cO en c κ)) [some (.ref (c 12)), some (.ref (c 1)), some (.ref (c 2)), some (.int (zI s)), some (.int (zI o)), none, none, none, none] [.int (zI ((o + 1) * pt P))] 8
  refine V_istore (L' := [some (.ref (c 12)), some (.ref (c 1)), some (.ref (c 2)), some (.int (zI s)), some (.int (zI o)), some (.int (zI ((o + 1) * pt P))), none, none, none]) dX2_add_8 (by decide) rfl ?_
  refine V_aload_n dX2_add_10 rfl ?_
  refine V_iload_n dX2_add_11 rfl ?_
  refine VO_callVF (As := [.int (zI s)]) (b := c 1) (i := 1) (ci := 4) (fs := prF c κ) (T := TX5) (N := 4) (at_pr) rfl hK (k_w5_firstCell en c κ s P ⟨hM, hC, by first | assumption | omega | exact ⟨by omega, by omega⟩ | exact ⟨⟨by omega, by omega⟩, by omega, by omega⟩ | exact ⟨⟨by omega, by omega⟩, ⟨by omega, by omega⟩⟩ | exact ⟨⟨by omega, by omega⟩, ⟨by omega, by omega⟩, by omega, by omega⟩⟩) mokX5_firstCell w377 w305 w306 ⟨Nat.le_of_ble_eq_true rfl, Nat.le_of_ble_eq_true rfl⟩ rfl (Nat.le_of_ble_eq_true rfl) ⟨Nat.le_of_ble_eq_true rfl, Nat.le_of_ble_eq_true rfl⟩ dX2_add_12 (fun v w p_14 => ?_)
  obtain ⟨rfl, rfl⟩ := p_14
  show V K sX2_add 0 0 (fm (cO en c κ)) [some (.ref (c 12)), some (.ref (c 1)), some (.ref (c 2)), some (.int (zI s)), some (.int (zI o)), some (.int (zI ((o + 1) * pt P))), none, none, none] [.int (zI (s * pt P))] 15
  refine V_istore (L' := [some (.ref (c 12)), some (.ref (c 1)), some (.ref (c 2)), some (.int (zI s)), some (.int (zI o)), some (.int (zI ((o + 1) * pt P))), some (.int (zI (s * pt P))), none, none]) dX2_add_15 (by decide) rfl ?_
  refine seg_17 κ (s * pt P) ?_ ?_ ?_ ?_
  · exact hC
  · omega
  · exact hF
  · rw [Int.sub_self]; exact hD.congr (fun r d => gDc_0)

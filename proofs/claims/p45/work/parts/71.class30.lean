/-! the class: the least joint rest -/
theorem dv {P : St} (hM : MI P) {x y : Int} (hx : 0 ≤ x ∧ x < pt P) (hy : 0 ≤ y ∧ y < pt P) : dR P x y * P 0 1 + dC P x y = y - x := by
  have h1 := place_rc hM hx.1 hx.2
  have h2 := place_rc hM hy.1 hy.2
  unfold dR dC
  rw [Int.sub_mul, Int.mul_comm, Int.mul_comm (x / P 0 1)]
  omega
theorem tm_neg {a b m : Int} : Int.tmod (a - b) m = 0 ↔ Int.tmod (b - a) m = 0 := by
  rw [show a - b = -(b - a) by omega, Int.neg_tmod]; omega
/-- values of the pairs of two statements -/
theorem gD_ok {P : St} (hM : MI P) {bw cw s o m : Int} {D : Int → Int → Prop} : rD P (gD P bw cw s o D) m ↔ (rD P D m ∧ ∀ x y, PQ P bw cw s o x y → Int.tmod (y - x) m ≠ 0) := by
  constructor
  · intro h
    refine ⟨fun r d hd => h r d (Or.inl hd), fun x y hp => ?_⟩
    have := h _ _ (Or.inr ⟨x, y, hp, rfl, rfl⟩)
    rw [dv hM hp.1 hp.2.1] at this
    exact this
  · rintro ⟨h1, h2⟩ r d (hd | ⟨x, y, hp, rfl, rfl⟩)
    · exact h1 r d hd
    · rw [dv hM hp.1 hp.2.1]; exact h2 x y hp
theorem PQ_same {P : St} {bw cw s m : Int} : (∀ x y, PQ P bw cw s s x y → Int.tmod (y - x) m ≠ 0) ↔ ∀ a b, cfp P bw cw s s a b → Int.tmod (a - b) m ≠ 0 := by
  constructor
  · rintro h a b ⟨h1, h2, h3⟩
    rcases Int.lt_trichotomy a b with hl | hl | hl
    · exact fun z => h a b ⟨h1, h2, fun _ => hl, h3⟩ (tm_neg.mp z)
    · rw [hl, cf_self] at h3; cases h3
    · exact h b a ⟨h2, h1, fun _ => hl, by rw [cf_sym]; exact h3⟩
  · rintro h x y ⟨h1, h2, -, h4⟩ z
    exact h x y ⟨h1, h2, h4⟩ (tm_neg.mp z)
theorem PQ_two {P : St} {bw cw s o m : Int} (hso : s ≠ o) : (∀ x y, PQ P bw cw s o x y → Int.tmod (y - x) m ≠ 0) ↔ ∀ a b, cfp P bw cw s o a b → Int.tmod (a - b) m ≠ 0 := by
  constructor
  · rintro h a b ⟨h1, h2, h3⟩ z
    exact h a b ⟨h1, h2, fun e => absurd e hso, h3⟩ (tm_neg.mp z)
  · rintro h x y ⟨h1, h2, -, h4⟩ z
    exact h x y ⟨h1, h2, h4⟩ (tm_neg.mp z)
theorem rD_no {P : St} {m : Int} : rD P noD m := fun _ _ h => h.elim
theorem rDj_two {P : St} (hM : MI P) {bw cw s o m : Int} (hso : s ≠ o) : rD P (gD P bw cw s o (gD P bw cw o o (gD P bw cw s s noD))) m ↔ jOK P bw cw s o m := by
  rw [gD_ok hM, gD_ok hM, gD_ok hM, PQ_same, PQ_same, PQ_two hso]
  unfold jOK
  constructor
  · rintro ⟨⟨⟨-, h1⟩, h2⟩, h3⟩ a b (h | h | h)
    · exact h1 a b h
    · exact h2 a b h
    · exact h3 a b h
  · intro h
    exact ⟨⟨⟨rD_no, fun a b z => h a b (Or.inl z)⟩, fun a b z => h a b (Or.inr (Or.inl z))⟩, fun a b z => h a b (Or.inr (Or.inr z))⟩
theorem rDj_one {P : St} (hM : MI P) {bw cw s m : Int} : rD P (gD P bw cw s s noD) m ↔ jOK P bw cw s s m := by
  rw [gD_ok hM, PQ_same]
  unfold jOK
  constructor
  · rintro ⟨-, h1⟩ a b (h | h | h) <;> exact h1 a b h
  · intro h
    exact ⟨rD_no, fun a b z => h a b (Or.inl z)⟩
theorem LRs.ljr {P κ2 : St} {bw cw s o x i : Int} {D : Int → Int → Prop} (h : LRs P D x i κ2) (hq : ∀ m, rD P D m ↔ jOK P bw cw s o m) : x = ljr P bw cw s o := by
  rcases h with ⟨⟨h1, h2⟩, -⟩ | ⟨h1, h2⟩
  · exact ljr_yes (h1.congr hq) h2
  · rw [h1]
    exact ljr_no (fun j a b z => h2 j a b ((hq j).mpr z))
set_option maxRecDepth 100000 in
set_option maxHeartbeats 4000000 in
theorem k_leastJointRest (en : Nat → Nat) (c : Nat → Nat) (κ : St) (s : Int) (o : Int) (P : St) (hp : MI P ∧ CI P κ ∧ iR s ∧ iR o ∧ WR P κ ∧ WB κ 4) : MCX (EN en) yX10_leastJointRest sX10_leastJointRest [.ref (c 0), .int (zI s), .int (zI o)] (fm (cO en c κ)) (fun v w => ∃ κ2 : St, v = some (.int (zI ((sp_leastJointRest P s o).2.1))) ∧ w = fm (cO en c κ2) ∧ ((sp_leastJointRest P s o).1 = 0) ∧ (CWP (sp_leastJointRest P s o).2.2 κ2)) (XP1 en c (sp_leastJointRest P s o) P [(1, IOBs)]) := by
  refine MCX.of (EN.stb en) [some (.ref (c 0)), some (.int (zI s)), some (.int (zI o))] 0 rfl rfl rfl (by simp [Value.category]) (Nat.le_of_ble_eq_true rfl) (fun K hK hR hX => ?_)
  obtain ⟨hM, hC, hp⟩ := hp
  have hN4 := hM.2.2.1
  obtain ⟨hr_s, hr_o, hW, hW4⟩ := hp
  have hCW : CWP P κ := ⟨hC, hW, hW4⟩
  unfold iR at hr_s
  unfold iR at hr_o
  refine V_aload_n dX10_leastJointRest_0 rfl ?_
  refine V_iload_n dX10_leastJointRest_1 rfl ?_
  refine VO_callXVF (As := [.int (zI s)]) (b := c 0) (i := 0) (ci := 9) (fs := cwF c κ) (T := TX10) (N := 9) (at_cw) rfl hK (k_requireStatement en c κ s P ⟨hM, hC, hr_s⟩) mokX10_requireStatement w704 w706 wps1_1 ⟨Nat.le_of_ble_eq_true rfl, Nat.le_of_ble_eq_true rfl⟩ rfl (Nat.le_of_ble_eq_true rfl) ⟨Nat.le_of_ble_eq_true rfl, Nat.le_of_ble_eq_true rfl⟩ dX10_leastJointRest_2 hX (fun X w h => XP1.of (gd_f (fun z => h.2.2 z.1)) h.1 (by decide) h.2.1 hCW) (Nat.le_of_ble_eq_true rfl) (Nat.le_of_ble_eq_true rfl) (fun v w p_1 => ?_)
  obtain ⟨rfl, rfl, q_2⟩ := p_1
  show V K sX10_leastJointRest 1 6 (fm (cO en c κ)) [some (.ref (c 0)), some (.int (zI s)), some (.int (zI o))] [] 5
  refine V_aload_n dX10_leastJointRest_5 rfl ?_
  refine V_iload_n dX10_leastJointRest_6 rfl ?_
  refine VO_callXVF (As := [.int (zI o)]) (b := c 0) (i := 0) (ci := 9) (fs := cwF c κ) (T := TX10) (N := 9) (at_cw) rfl hK (k_requireStatement en c κ o P ⟨hM, hC, hr_o⟩) mokX10_requireStatement w704 w706 wps1_1 ⟨Nat.le_of_ble_eq_true rfl, Nat.le_of_ble_eq_true rfl⟩ rfl (Nat.le_of_ble_eq_true rfl) ⟨Nat.le_of_ble_eq_true rfl, Nat.le_of_ble_eq_true rfl⟩ dX10_leastJointRest_7 hX (fun X w h => XP1.of (gd_f (fun z => h.2.2 z.2)) h.1 (by decide) h.2.1 hCW) (Nat.le_of_ble_eq_true rfl) (Nat.le_of_ble_eq_true rfl) (fun v w p_3 => ?_)
  obtain ⟨rfl, rfl, q_4⟩ := p_3
  show V K sX10_leastJointRest 2 12 (fm (cO en c κ)) [some (.ref (c 0)), some (.int (zI s)), some (.int (zI o))] [] 10
  refine V_aload_n dX10_leastJointRest_10 rfl ?_
  refine VO_callVF (As := []) (b := c 0) (i := 0) (ci := 9) (fs := cwF c κ) (T := TX10) (N := 9) (at_cw) rfl hK (k_arranged en c κ P ⟨hM, hC⟩) mokX10_arranged w312 w314 wps0_0 ⟨Nat.le_of_ble_eq_true rfl, Nat.le_of_ble_eq_true rfl⟩ rfl (Nat.le_of_ble_eq_true rfl) ⟨Nat.le_of_ble_eq_true rfl, Nat.le_of_ble_eq_true rfl⟩ dX10_leastJointRest_11 (fun v w p_5 => ?_)
  obtain ⟨κ_6, rfl, rfl, q_7, q_8, q_9⟩ := p_5
  show V K sX10_leastJointRest 2 12 (fm (cO en c κ_6)) [some (.ref (c 0)), some (.int (zI s)), some (.int (zI o))] [.ref (c 2)] 14
  refine V_pop dX10_leastJointRest_14 rfl ?_
  refine V_aload_n dX10_leastJointRest_15 rfl ?_
  refine V_iload_n dX10_leastJointRest_16 rfl ?_
  refine VO_callVF (As := [.int (zI s)]) (b := c 0) (i := 0) (ci := 9) (fs := cwF c κ_6) (T := TX10) (N := 9) (at_cw) rfl hK (k_gatherDifferences en c κ_6 s P (P 0 11) (P 0 12) ⟨hM, q_7, q_8, q_2⟩) mokX10_gatherDifferences w365 w367 wps0_5 ⟨Nat.le_of_ble_eq_true rfl, Nat.le_of_ble_eq_true rfl⟩ rfl (Nat.le_of_ble_eq_true rfl) ⟨Nat.le_of_ble_eq_true rfl, Nat.le_of_ble_eq_true rfl⟩ dX10_leastJointRest_17 (fun v w p_10 => ?_)
  obtain ⟨κ_11, rfl, rfl, q_12, q_13, q_14⟩ := p_10
  show V K sX10_leastJointRest 2 12 (fm (cO en c κ_11)) [some (.ref (c 0)), some (.int (zI s)), some (.int (zI o))] [] 20
  refine V_iload_n dX10_leastJointRest_20 rfl ?_
  refine V_iload_n dX10_leastJointRest_21 rfl ?_
  refine V_icmp_eq (tgt := 59) dX10_leastJointRest_22 (by decide) ⟨⟨by omega, by omega⟩, ⟨by omega, by omega⟩⟩ (fun c_15 => ?_) (fun c_15 => ?_)
  · refine V_aload_n dX10_leastJointRest_59 rfl ?_
    refine VO_getf (C0 := RX10) (T := TX10) (N := 9) (ci := 9) (fs := cwF c κ_11) 0 2 iwX10 (by decide) w235 (Or.inl rfl) rfl (at_cw) rfl dX10_leastJointRest_60 ?_
    refine V_aload_n dX10_leastJointRest_63 rfl ?_
    refine VO_getf (C0 := RX10) (T := TX10) (N := 9) (ci := 9) (fs := cwF c κ_11) 0 3 iwX10 (by decide) w236 (Or.inl rfl) rfl (at_cw) rfl dX10_leastJointRest_64 ?_
    show V K sX10_leastJointRest 2 12 (fm (cO en c κ_11)) [some (.ref (c 0)), some (.int (zI s)), some (.int (zI o))] [.ref (c (34 + 8 * Int.toNat 4)), .ref (c 12)] 67
    refine VO_callVF (As := [.ref (c (34 + 8 * Int.toNat 4))]) (b := c 12) (i := 12) (ci := 2) (fs := dfF c κ_11) (T := TX2) (N := 7) (at_df) rfl hK (k_w2_leastRestModulus en c κ_11 4 P (gD P (P 0 11) (P 0 12) s s noD) ⟨hM, q_12, q_13, CI.w4 _, ((hCW.fr q_9 (by decide)).fr q_14 (by decide)).2.2⟩) mokX2_leastRestModulus w400 w401 w402 ⟨Nat.le_of_ble_eq_true rfl, Nat.le_of_ble_eq_true rfl⟩ rfl (Nat.le_of_ble_eq_true rfl) ⟨Nat.le_of_ble_eq_true rfl, Nat.le_of_ble_eq_true rfl⟩ dX10_leastJointRest_67 (fun v w p_16 => ?_)
    obtain ⟨r_17, κ_18, rfl, rfl, q_19, q_20, q_21, q_22⟩ := p_16
    show V K sX10_leastJointRest 2 12 (fm (cO en c κ_18)) [some (.ref (c 0)), some (.int (zI s)), some (.int (zI o))] [.int (zI r_17)] 70
    refine V_iret hR rfl (Nat.le_of_ble_eq_true rfl) (Nat.le_of_ble_eq_true rfl) dX10_leastJointRest_70 ?_
    exact pubC (sp := sp_leastJointRest P s o) (gd_t ⟨q_2, q_4⟩) (ziE (by rw [show o = s by omega]; exact LRs.ljr q_22 (fun m => rDj_one hM))) (((hCW.fr q_9 (by decide)).fr q_14 (by decide)).frW4 q_20 q_21 hM)
  · refine V_aload_n dX10_leastJointRest_25 rfl ?_
    refine VO_getf (C0 := RX10) (T := TX10) (N := 9) (ci := 9) (fs := cwF c κ_11) 0 2 iwX10 (by decide) w235 (Or.inl rfl) rfl (at_cw) rfl dX10_leastJointRest_26 ?_
    refine V_aload_n dX10_leastJointRest_29 rfl ?_
    refine VO_getf (C0 := RX10) (T := TX10) (N := 9) (ci := 9) (fs := cwF c κ_11) 0 0 iwX10 (by decide) w233 (Or.inl rfl) rfl (at_cw) rfl dX10_leastJointRest_30 ?_
    refine V_aload_n dX10_leastJointRest_33 rfl ?_
    refine VO_getf (C0 := RX10) (T := TX10) (N := 9) (ci := 9) (fs := cwF c κ_11) 0 1 iwX10 (by decide) w234 (Or.inl rfl) rfl (at_cw) rfl dX10_leastJointRest_34 ?_
    refine V_iload_n dX10_leastJointRest_37 rfl ?_
    refine V_iload_n dX10_leastJointRest_38 rfl ?_
    refine VO_callVF (As := [.ref (c 1), .ref (c 2), .int (zI o), .int (zI o)]) (b := c 12) (i := 12) (ci := 2) (fs := dfF c κ_11) (T := TX2) (N := 7) (at_df) rfl hK (k_w2_add en c κ_11 o o P (P 0 11) (P 0 12) (gD P (P 0 11) (P 0 12) s s noD) ⟨hM, q_12, q_8.fr q_14 (by decide), q_13, q_4, q_4⟩) mokX2_add w373 w374 w375 ⟨Nat.le_of_ble_eq_true rfl, Nat.le_of_ble_eq_true rfl⟩ rfl (Nat.le_of_ble_eq_true rfl) ⟨Nat.le_of_ble_eq_true rfl, Nat.le_of_ble_eq_true rfl⟩ dX10_leastJointRest_39 (fun v w p_23 => ?_)
    obtain ⟨κ_24, rfl, rfl, q_25, q_26, q_27⟩ := p_23
    show V K sX10_leastJointRest 2 12 (fm (cO en c κ_24)) [some (.ref (c 0)), some (.int (zI s)), some (.int (zI o))] [] 42
    refine V_aload_n dX10_leastJointRest_42 rfl ?_
    refine VO_getf (C0 := RX10) (T := TX10) (N := 9) (ci := 9) (fs := cwF c κ_24) 0 2 iwX10 (by decide) w235 (Or.inl rfl) rfl (at_cw) rfl dX10_leastJointRest_43 ?_
    refine V_aload_n dX10_leastJointRest_46 rfl ?_
    refine VO_getf (C0 := RX10) (T := TX10) (N := 9) (ci := 9) (fs := cwF c κ_24) 0 0 iwX10 (by decide) w233 (Or.inl rfl) rfl (at_cw) rfl dX10_leastJointRest_47 ?_
    refine V_aload_n dX10_leastJointRest_50 rfl ?_
    refine VO_getf (C0 := RX10) (T := TX10) (N := 9) (ci := 9) (fs := cwF c κ_24) 0 1 iwX10 (by decide) w234 (Or.inl rfl) rfl (at_cw) rfl dX10_leastJointRest_51 ?_
    refine V_iload_n dX10_leastJointRest_54 rfl ?_
    refine V_iload_n dX10_leastJointRest_55 rfl ?_
    refine VO_callVF (As := [.ref (c 1), .ref (c 2), .int (zI s), .int (zI o)]) (b := c 12) (i := 12) (ci := 2) (fs := dfF c κ_24) (T := TX2) (N := 7) (at_df) rfl hK (k_w2_add en c κ_24 s o P (P 0 11) (P 0 12) (gD P (P 0 11) (P 0 12) o o (gD P (P 0 11) (P 0 12) s s noD)) ⟨hM, q_25, (q_8.fr q_14 (by decide)).fr q_27 (by decide), q_26, q_2, q_4⟩) mokX2_add w373 w374 w375 ⟨Nat.le_of_ble_eq_true rfl, Nat.le_of_ble_eq_true rfl⟩ rfl (Nat.le_of_ble_eq_true rfl) ⟨Nat.le_of_ble_eq_true rfl, Nat.le_of_ble_eq_true rfl⟩ dX10_leastJointRest_56 (fun v w p_28 => ?_)
    obtain ⟨κ_29, rfl, rfl, q_30, q_31, q_32⟩ := p_28
    show V K sX10_leastJointRest 2 12 (fm (cO en c κ_29)) [some (.ref (c 0)), some (.int (zI s)), some (.int (zI o))] [] 59
    refine V_aload_n dX10_leastJointRest_59 rfl ?_
    refine VO_getf (C0 := RX10) (T := TX10) (N := 9) (ci := 9) (fs := cwF c κ_29) 0 2 iwX10 (by decide) w235 (Or.inl rfl) rfl (at_cw) rfl dX10_leastJointRest_60 ?_
    refine V_aload_n dX10_leastJointRest_63 rfl ?_
    refine VO_getf (C0 := RX10) (T := TX10) (N := 9) (ci := 9) (fs := cwF c κ_29) 0 3 iwX10 (by decide) w236 (Or.inl rfl) rfl (at_cw) rfl dX10_leastJointRest_64 ?_
    show V K sX10_leastJointRest 2 12 (fm (cO en c κ_29)) [some (.ref (c 0)), some (.int (zI s)), some (.int (zI o))] [.ref (c (34 + 8 * Int.toNat 4)), .ref (c 12)] 67
    refine VO_callVF (As := [.ref (c (34 + 8 * Int.toNat 4))]) (b := c 12) (i := 12) (ci := 2) (fs := dfF c κ_29) (T := TX2) (N := 7) (at_df) rfl hK (k_w2_leastRestModulus en c κ_29 4 P (gD P (P 0 11) (P 0 12) s o (gD P (P 0 11) (P 0 12) o o (gD P (P 0 11) (P 0 12) s s noD))) ⟨hM, q_30, q_31, CI.w4 _, ((((hCW.fr q_9 (by decide)).fr q_14 (by decide)).fr q_27 (by decide)).fr q_32 (by decide)).2.2⟩) mokX2_leastRestModulus w400 w401 w402 ⟨Nat.le_of_ble_eq_true rfl, Nat.le_of_ble_eq_true rfl⟩ rfl (Nat.le_of_ble_eq_true rfl) ⟨Nat.le_of_ble_eq_true rfl, Nat.le_of_ble_eq_true rfl⟩ dX10_leastJointRest_67 (fun v w p_33 => ?_)
    obtain ⟨r_34, κ_35, rfl, rfl, q_36, q_37, q_38, q_39⟩ := p_33
    show V K sX10_leastJointRest 2 12 (fm (cO en c κ_35)) [some (.ref (c 0)), some (.int (zI s)), some (.int (zI o))] [.int (zI r_34)] 70
    refine V_iret hR rfl (Nat.le_of_ble_eq_true rfl) (Nat.le_of_ble_eq_true rfl) dX10_leastJointRest_70 ?_
    exact pubC (sp := sp_leastJointRest P s o) (gd_t ⟨q_2, q_4⟩) (ziE (LRs.ljr q_39 (fun m => rDj_two hM (by omega)))) (((((hCW.fr q_9 (by decide)).fr q_14 (by decide)).fr q_27 (by decide)).fr q_32 (by decide)).frW4 q_37 q_38 hM)

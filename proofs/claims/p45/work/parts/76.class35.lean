/-! the class: the smallest window of a statement -/
/-- all but the windows s and 4 is as before -/
def frS (s : Int) (κ κ2 : St) : Prop := ∀ (k : Nat) (j : Int), (k < 39 ∨ 43 < k ∨ (j ≠ s ∧ j ≠ 4)) → κ2 k j = κ k j
theorem frW.S {s : Int} {κ κ2 : St} (h : frW s κ κ2) : frS s κ κ2 := fun k j hj => h k j (by omega)
theorem frW.S4 {s : Int} {κ κ2 : St} (h : frW 4 κ κ2) : frS s κ κ2 := fun k j hj => h k j (by omega)
theorem frS.tr {s : Int} {a b d : St} (h1 : frS s a b) (h2 : frS s b d) : frS s a d := fun k j hj => (h2 k j hj).trans (h1 k j hj)
theorem frS.key {s : Int} {κ0 κ : St} (h : frS s κ0 κ) {k : Nat} (hk : k < 39 ∨ 43 < k) : κ k = κ0 k := funext fun j => h k j (by omega)
theorem Arr.frS {P κ0 κ : St} {bw cw i : Int} (h : Arr P bw cw κ0) (hf : frS i κ0 κ) : Arr P bw cw κ := by
  unfold Arr
  rw [hf.key (k := 50) (by omega), hf.key (k := 51) (by omega), hf.key (k := 52) (by omega), hf.key (k := 53) (by omega), hf.key (k := 54) (by omega), hf.key (k := 55) (by omega), hf.key (k := 56) (by omega)]
  exact h
theorem WR1.frS {P κ κ2 : St} {t s : Int} (h : WR1 P κ t) (hf : frS s κ κ2) (h1 : t ≠ s) (h4 : t ≠ 4) : WR1 P κ2 t := by
  obtain ⟨g1, g2⟩ := h
  unfold WR1 WB
  rw [hf 39 t (by omega), hf 40 t (by omega), hf 41 t (by omega), hf 42 t (by omega), hf 43 t (by omega)]
  exact ⟨g1, g2⟩
def eqT (t : Int) (Q R : St) : Prop := R 13 t = Q 13 t ∧ R 14 t = Q 14 t ∧ R 15 t = Q 15 t
theorem WR1.eqT {Q R κ : St} {t : Int} (h : WR1 Q κ t) (e : eqT t Q R) : WR1 R κ t := by
  unfold WR1
  rw [e.1, e.2.1, e.2.2]
  exact h
theorem eqT.tr {t : Int} {a b d : St} (h1 : eqT t a b) (h2 : eqT t b d) : eqT t a d := ⟨h2.1.trans h1.1, h2.2.1.trans h1.2.1, h2.2.2.trans h1.2.2⟩
theorem eqT_kp {t s : Int} {Q : St} {k a b : Int} (h : t ≠ s) : eqT t Q (kp Q s k a b) := ⟨by rw [kp_13, if_neg h], by rw [kp_14, if_neg h], by rw [kp_15, if_neg h]⟩
theorem eqT_if {t s v w : Int} {Q : St} {k a b : Int} (h : t ≠ s) : eqT t Q (if v < w then kp Q s k a b else Q) := by
  split
  · exact eqT_kp h
  · exact ⟨rfl, rfl, rfl⟩
def MS (P Q : St) : Prop := MI Q ∧ Sw P Q
theorem ms_if {P Q : St} (h : MS P Q) {s v w k a b : Int} (hk : k = 0 ∨ (k = 1 ∧ 1 ≤ a ∧ a ≤ 99) ∨ (k = 2 ∧ 1 ≤ a ∧ a ≤ 99 ∧ 1 ≤ b ∧ b ≤ 99) ∨ (k = 3 ∧ 0 ≤ a ∧ a ≤ 9 ∧ 1 ≤ b ∧ b ≤ 99)) : MS P (if v < w then kp Q s k a b else Q) := by
  split
  · exact ⟨h.1.kp hk, h.2.kp s k a b⟩
  · exact h
theorem ms_0 {P Q : St} (h : MS P Q) (s : Int) : MS P (kp Q s 0 0 0) := ⟨h.1.kp (Or.inl rfl), h.2.kp s 0 0 0⟩
theorem ms_1 {P Q : St} (hM : MI P) (h : MS P Q) (s : Int) : MS P (cw1 P s Q) := by
  have := lr_b hM (P 0 11) (P 0 12) s
  exact ms_if h (Or.inr (Or.inl ⟨rfl, by omega, by omega⟩))
theorem ms_2 {P Q : St} (hM : MI P) (h : MS P Q) (s : Int) : MS P (cw2 P s Q) := by
  have := two_b hM (P 0 11) (P 0 12) s
  exact ms_if h (Or.inr (Or.inr (Or.inl ⟨rfl, by omega, by omega, by omega, by omega⟩)))
theorem ms_3 {P Q : St} (hM : MI P) (h : MS P Q) (s : Int) : MS P (cw3 P s Q) := by
  have h1 := (ls_ok hM (P 0 11) (P 0 12) s).1
  have h2 := hM.pts
  exact ms_if h (Or.inr (Or.inr (Or.inr ⟨rfl, by omega, by omega, by omega, by omega⟩)))
theorem wsz_1 {κ : St} {i p : Int} (h : κ 39 i = 1) : wsz κ i p = κ 40 i := by unfold wsz; rw [if_neg (by omega), if_neg (by omega)]
theorem wsz_2 {κ : St} {i p : Int} (h : κ 39 i = 2) : wsz κ i p = κ 41 i * κ 42 i := by unfold wsz; rw [if_neg (by omega), if_pos h]
theorem wsz_3 {κ : St} {i p : Int} (h : κ 39 i = 3) : wsz κ i p = κ 40 i := by unfold wsz; rw [if_neg (by omega), if_neg (by omega)]
theorem WK1.r0 {κ : St} {i : Int} (h : κ 39 i = 0) : WK1 κ i 0 0 0 := ⟨h, fun z => by omega, fun z => by omega, fun z => by omega⟩
theorem WK1.r1 {κ : St} {i a : Int} (h : κ 39 i = 1) (h2 : κ 40 i = a) : WK1 κ i 1 a 0 := ⟨h, fun _ => h2, fun z => by omega, fun z => by omega⟩
theorem WK1.r2 {κ : St} {i a b : Int} (h : κ 39 i = 2) (h1 : κ 41 i = a) (h2 : κ 42 i = b) : WK1 κ i 2 a b := ⟨h, fun z => by omega, fun _ => ⟨h1, h2⟩, fun z => by omega⟩
theorem WK1.r3 {κ : St} {i a b : Int} (h : κ 39 i = 3) (h1 : κ 43 i = a) (h2 : κ 40 i = b) : WK1 κ i 3 a b := ⟨h, fun z => by omega, fun z => by omega, fun _ => ⟨h1, h2⟩⟩
theorem kis_1 {P R κ κ2 : St} {s x : Int} (hM : MI P) (hR : MS P R) (hs : 0 ≤ s ∧ s < P 0 2) (hW : WR1 R κ s) (hL : LRs P (gD P (P 0 11) (P 0 12) s s noD) x 4 κ) (hb : WB κ 4) (h1 : wsz κ 4 (pt P) < wsz κ s (pt P) → cpW s 4 κ κ2) (h2 : ¬ wsz κ 4 (pt P) < wsz κ s (pt P) → κ2 = κ) : WR1 (cw1 P s R) κ2 s := by
  obtain ⟨e1, e2, e3⟩ := hL.lr hM
  exact kis hR.1 hR.2.pt (by rw [hR.2.keys]; exact hs) hW (WK1.r1 e2 (e3.trans e1)) hb ((wsz_1 e2).trans (e3.trans e1)) h1 h2
theorem kis_2 {P R κ κ2 : St} {s : Int} (hR : MS P R) (hs : 0 ≤ s ∧ s < P 0 2) (hW : WR1 R κ s) (hL : TRs P (gD P (P 0 11) (P 0 12) s s noD) 4 κ) (hb : WB κ 4) (h1 : wsz κ 4 (pt P) < wsz κ s (pt P) → cpW s 4 κ κ2) (h2 : ¬ wsz κ 4 (pt P) < wsz κ s (pt P) → κ2 = κ) : WR1 (cw2 P s R) κ2 s := by
  obtain ⟨e1, e2⟩ := hL.1.two
  exact kis hR.1 hR.2.pt (by rw [hR.2.keys]; exact hs) hW (WK1.r2 hL.2 e1 e2) hb ((wsz_2 hL.2).trans (by rw [e1, e2])) h1 h2
theorem kis_3 {P R κ κ2 : St} {s : Int} (hM : MI P) (hR : MS P R) (hs : 0 ≤ s ∧ s < P 0 2) (hW : WR1 R κ s) (hL : SRs (gD P (P 0 11) (P 0 12) s s noD) 4 κ) (hb : WB κ 4) (h1 : wsz κ 4 (pt P) < wsz κ s (pt P) → cpW s 4 κ κ2) (h2 : ¬ wsz κ 4 (pt P) < wsz κ s (pt P) → κ2 = κ) : WR1 (cw3 P s R) κ2 s := by
  obtain ⟨e1, e2⟩ := hL.ls hM
  exact kis hR.1 hR.2.pt (by rw [hR.2.keys]; exact hs) hW (WK1.r3 hL.2.1 e2 e1) hb ((wsz_3 hL.2.1).trans e1) h1 h2
set_option maxRecDepth 100000 in
set_option maxHeartbeats 4000000 in
theorem k_keepSmallest (en : Nat → Nat) (c : Nat → Nat) (κ : St) (s : Int) (P : St) (Q : St) (hp : MI P ∧ CI P κ ∧ (0 ≤ s ∧ s < P 0 2) ∧ DS P (gD P (P 0 11) (P 0 12) s s noD) κ ∧ WB κ s ∧ WB κ 4 ∧ MS P Q) : MC (EN en) yX10_keepSmallest sX10_keepSmallest [.ref (c 0), .ref (c (34 + 8 * Int.toNat s))] (fm (cO en c κ)) (fun v w => ∃ κ2 : St, v = none ∧ w = fm (cO en c κ2) ∧ (CI P κ2) ∧ (WR1 (cw3 P s (cw2 P s (cw1 P s (kp Q s 0 0 0)))) κ2 s) ∧ (WB κ2 4) ∧ (frS s κ κ2)) := by
  refine MC.of (EN.stb en) [some (.ref (c 0)), some (.ref (c (34 + 8 * Int.toNat s)))] 0 rfl rfl rfl (by simp [Value.category]) (Nat.le_of_ble_eq_true rfl) (fun K hK hR => ?_)
  obtain ⟨hM, hC, hp⟩ := hp
  have hN4 := hM.2.2.1
  obtain ⟨hs, hD, hB, hB4, hQ⟩ := hp
  have hs4 : s ≠ 4 := by omega
  have hf1 : frW s κ (up κ 39 s ((0 : Nat) : Int)) := (frW.rf s κ).upd (by decide)
  have hm0 := ms_0 hQ s
  have hm1 := ms_1 hM hm0 s
  have hm2 := ms_2 hM hm1 s
  have hlk := ls_ok hM (P 0 11) (P 0 12) s
  have hr0 : WR1 (kp Q s 0 0 0) (up κ 39 s ((0 : Nat) : Int)) s := WR1.kp (WK1.r0 (fup_eq _ _ _)) hB.whole
  refine V_aload_n dX10_keepSmallest_0 rfl ?_
  refine VO_callVF (As := []) (b := c (34 + 8 * Int.toNat s)) (i := 34 + 8 * Int.toNat s) (ci := 7) (fs := wnF en κ s) (T := TX8) (N := 5) (at_wn ((hC).wn hM (by omega))) rfl hK (k_w8_becomeWhole en c κ s (hC.wn hM hs)) mokX8_becomeWhole w396 w397 w398 ⟨Nat.le_of_ble_eq_true rfl, Nat.le_of_ble_eq_true rfl⟩ rfl (Nat.le_of_ble_eq_true rfl) ⟨Nat.le_of_ble_eq_true rfl, Nat.le_of_ble_eq_true rfl⟩ dX10_keepSmallest_1 (fun v w p_1 => ?_)
  obtain ⟨rfl, rfl⟩ := p_1
  show V K sX10_keepSmallest 0 0 (fm (cO en c (up κ 39 s ((0 : Nat) : Int)))) [some (.ref (c 0)), some (.ref (c (34 + 8 * Int.toNat s)))] [] 4
  refine V_aload_n dX10_keepSmallest_4 rfl ?_
  refine VO_getf (C0 := RX10) (T := TX10) (N := 9) (ci := 9) (fs := cwF c (up κ 39 s ((0 : Nat) : Int))) 0 2 iwX10 (by decide) w235 (Or.inl rfl) rfl (at_cw) rfl dX10_keepSmallest_5 ?_
  refine V_aload_n dX10_keepSmallest_8 rfl ?_
  refine VO_getf (C0 := RX10) (T := TX10) (N := 9) (ci := 9) (fs := cwF c (up κ 39 s ((0 : Nat) : Int))) 0 3 iwX10 (by decide) w236 (Or.inl rfl) rfl (at_cw) rfl dX10_keepSmallest_9 ?_
  show V K sX10_keepSmallest 0 0 (fm (cO en c (up κ 39 s ((0 : Nat) : Int)))) [some (.ref (c 0)), some (.ref (c (34 + 8 * Int.toNat s)))] [.ref (c (34 + 8 * Int.toNat 4)), .ref (c 12)] 12
  refine VO_callVF (As := [.ref (c (34 + 8 * Int.toNat 4))]) (b := c 12) (i := 12) (ci := 2) (fs := dfF c (up κ 39 s ((0 : Nat) : Int))) (T := TX2) (N := 7) (at_df) rfl hK (k_w2_leastRestModulus en c (up κ 39 s ((0 : Nat) : Int)) 4 P (gD P (P 0 11) (P 0 12) s s noD) ⟨hM, ((hC).up (by decide)), hD.frW hf1, CI.w4 _, hB4.frW hf1 (Ne.symm hs4)⟩) mokX2_leastRestModulus w400 w401 w402 ⟨Nat.le_of_ble_eq_true rfl, Nat.le_of_ble_eq_true rfl⟩ rfl (Nat.le_of_ble_eq_true rfl) ⟨Nat.le_of_ble_eq_true rfl, Nat.le_of_ble_eq_true rfl⟩ dX10_keepSmallest_12 (fun v w p_2 => ?_)
  obtain ⟨r_3, κ_4, rfl, rfl, q_5, q_6, q_7, q_8⟩ := p_2
  show V K sX10_keepSmallest 0 0 (fm (cO en c κ_4)) [some (.ref (c 0)), some (.ref (c (34 + 8 * Int.toNat s)))] [.int (zI r_3)] 15
  refine V_pop dX10_keepSmallest_15 rfl ?_
  have hr0b := hr0.frW q_6 hs4
  refine V_aload_n dX10_keepSmallest_16 rfl ?_
  refine V_aload_n dX10_keepSmallest_17 rfl ?_
  refine VO_callVF (As := [.ref (c (34 + 8 * Int.toNat s))]) (b := c 0) (i := 0) (ci := 9) (fs := cwF c κ_4) (T := TX10) (N := 9) (at_cw) rfl hK (k_keepIfSmaller en c κ_4 s P ⟨hM, q_5, hs, hr0b.2, q_7⟩) mokX10_keepIfSmaller w429 w431 wps0_9 ⟨Nat.le_of_ble_eq_true rfl, Nat.le_of_ble_eq_true rfl⟩ rfl (Nat.le_of_ble_eq_true rfl) ⟨Nat.le_of_ble_eq_true rfl, Nat.le_of_ble_eq_true rfl⟩ dX10_keepSmallest_18 (fun v w p_9 => ?_)
  obtain ⟨κ_10, rfl, rfl, q_11, q_12, q_13, q_14⟩ := p_9
  show V K sX10_keepSmallest 0 0 (fm (cO en c κ_10)) [some (.ref (c 0)), some (.ref (c (34 + 8 * Int.toNat s)))] [] 21
  have hr1 := kis_1 hM hm0 hs hr0b q_8 q_7 q_13 q_14
  have hd3 := (((hD.frW hf1).frW q_6).frW q_12)
  refine V_aload_n dX10_keepSmallest_21 rfl ?_
  refine VO_getf (C0 := RX10) (T := TX10) (N := 9) (ci := 9) (fs := cwF c κ_10) 0 2 iwX10 (by decide) w235 (Or.inl rfl) rfl (at_cw) rfl dX10_keepSmallest_22 ?_
  refine V_aload_n dX10_keepSmallest_25 rfl ?_
  refine VO_getf (C0 := RX10) (T := TX10) (N := 9) (ci := 9) (fs := cwF c κ_10) 0 3 iwX10 (by decide) w236 (Or.inl rfl) rfl (at_cw) rfl dX10_keepSmallest_26 ?_
  show V K sX10_keepSmallest 0 0 (fm (cO en c κ_10)) [some (.ref (c 0)), some (.ref (c (34 + 8 * Int.toNat s)))] [.ref (c (34 + 8 * Int.toNat 4)), .ref (c 12)] 29
  refine VO_callVF (As := [.ref (c (34 + 8 * Int.toNat 4))]) (b := c 12) (i := 12) (ci := 2) (fs := dfF c κ_10) (T := TX2) (N := 7) (at_df) rfl hK (k_w2_findTwoRests en c κ_10 4 P (gD P (P 0 11) (P 0 12) s s noD) ⟨hM, q_11, hd3, CI.w4 _, (q_7).frW q_12 (Ne.symm hs4), tD_all hM⟩) mokX2_findTwoRests w443 w444 w445 ⟨Nat.le_of_ble_eq_true rfl, Nat.le_of_ble_eq_true rfl⟩ rfl (Nat.le_of_ble_eq_true rfl) ⟨Nat.le_of_ble_eq_true rfl, Nat.le_of_ble_eq_true rfl⟩ dX10_keepSmallest_29 (fun v w p_15 => ?_)
  obtain ⟨κ_16, rfl, rfl, q_17, q_18, q_19, q_20⟩ := p_15
  show V K sX10_keepSmallest 0 0 (fm (cO en c κ_16)) [some (.ref (c 0)), some (.ref (c (34 + 8 * Int.toNat s)))] [] 32
  have hr1b := hr1.frW q_18 hs4
  refine V_aload_n dX10_keepSmallest_32 rfl ?_
  refine V_aload_n dX10_keepSmallest_33 rfl ?_
  refine VO_callVF (As := [.ref (c (34 + 8 * Int.toNat s))]) (b := c 0) (i := 0) (ci := 9) (fs := cwF c κ_16) (T := TX10) (N := 9) (at_cw) rfl hK (k_keepIfSmaller en c κ_16 s P ⟨hM, q_17, hs, hr1b.2, q_19⟩) mokX10_keepIfSmaller w429 w431 wps0_9 ⟨Nat.le_of_ble_eq_true rfl, Nat.le_of_ble_eq_true rfl⟩ rfl (Nat.le_of_ble_eq_true rfl) ⟨Nat.le_of_ble_eq_true rfl, Nat.le_of_ble_eq_true rfl⟩ dX10_keepSmallest_34 (fun v w p_21 => ?_)
  obtain ⟨κ_22, rfl, rfl, q_23, q_24, q_25, q_26⟩ := p_21
  show V K sX10_keepSmallest 0 0 (fm (cO en c κ_22)) [some (.ref (c 0)), some (.ref (c (34 + 8 * Int.toNat s)))] [] 37
  have hr2 := kis_2 hm1 hs hr1b q_20 q_19 q_25 q_26
  have hd5 := (hd3.frW q_18).frW q_24
  refine V_aload_n dX10_keepSmallest_37 rfl ?_
  refine VO_getf (C0 := RX10) (T := TX10) (N := 9) (ci := 9) (fs := cwF c κ_22) 0 2 iwX10 (by decide) w235 (Or.inl rfl) rfl (at_cw) rfl dX10_keepSmallest_38 ?_
  refine V_aload_n dX10_keepSmallest_41 rfl ?_
  refine VO_getf (C0 := RX10) (T := TX10) (N := 9) (ci := 9) (fs := cwF c κ_22) 0 3 iwX10 (by decide) w236 (Or.inl rfl) rfl (at_cw) rfl dX10_keepSmallest_42 ?_
  show V K sX10_keepSmallest 0 0 (fm (cO en c κ_22)) [some (.ref (c 0)), some (.ref (c (34 + 8 * Int.toNat s)))] [.ref (c (34 + 8 * Int.toNat 4)), .ref (c 12)] 45
  refine VO_callVF (As := [.ref (c (34 + 8 * Int.toNat 4))]) (b := c 12) (i := 12) (ci := 2) (fs := dfF c κ_22) (T := TX2) (N := 7) (at_df) rfl hK (k_w2_findSlant en c κ_22 4 P (gD P (P 0 11) (P 0 12) s s noD) (ls P (P 0 11) (P 0 12) s) ⟨hM, q_23, hd5, CI.w4 _, (q_19).frW q_24 (Ne.symm hs4), hlk.1, hlk.2⟩) mokX2_findSlant w451 w452 w453 ⟨Nat.le_of_ble_eq_true rfl, Nat.le_of_ble_eq_true rfl⟩ rfl (Nat.le_of_ble_eq_true rfl) ⟨Nat.le_of_ble_eq_true rfl, Nat.le_of_ble_eq_true rfl⟩ dX10_keepSmallest_45 (fun v w p_27 => ?_)
  obtain ⟨κ_28, rfl, rfl, q_29, q_30, q_31, q_32⟩ := p_27
  show V K sX10_keepSmallest 0 0 (fm (cO en c κ_28)) [some (.ref (c 0)), some (.ref (c (34 + 8 * Int.toNat s)))] [] 48
  have hr2b := hr2.frW q_30 hs4
  refine V_aload_n dX10_keepSmallest_48 rfl ?_
  refine V_aload_n dX10_keepSmallest_49 rfl ?_
  refine VO_callVF (As := [.ref (c (34 + 8 * Int.toNat s))]) (b := c 0) (i := 0) (ci := 9) (fs := cwF c κ_28) (T := TX10) (N := 9) (at_cw) rfl hK (k_keepIfSmaller en c κ_28 s P ⟨hM, q_29, hs, hr2b.2, q_31⟩) mokX10_keepIfSmaller w429 w431 wps0_9 ⟨Nat.le_of_ble_eq_true rfl, Nat.le_of_ble_eq_true rfl⟩ rfl (Nat.le_of_ble_eq_true rfl) ⟨Nat.le_of_ble_eq_true rfl, Nat.le_of_ble_eq_true rfl⟩ dX10_keepSmallest_50 (fun v w p_33 => ?_)
  obtain ⟨κ_34, rfl, rfl, q_35, q_36, q_37, q_38⟩ := p_33
  show V K sX10_keepSmallest 0 0 (fm (cO en c κ_34)) [some (.ref (c 0)), some (.ref (c (34 + 8 * Int.toNat s)))] [] 53
  refine V_vret hR rfl (Nat.le_of_ble_eq_true rfl) (Nat.le_of_ble_eq_true rfl) dX10_keepSmallest_53 ?_
  exact ⟨_, rfl, rfl, q_35, kis_3 hM hm2 hs hr2b q_32 q_31 q_37 q_38, (q_31).frW q_36 (Ne.symm hs4), ((((((hf1.S).tr (q_6).S4).tr (q_12).S).tr (q_18).S4).tr (q_24).S).tr (q_30).S4).tr (q_36).S⟩

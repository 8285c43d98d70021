/-! the class: windows that keep the differences apart; the least rest -/
/-- all but the window i is as before -/
def frW (i : Int) (κ0 κ : St) : Prop := ∀ (k : Nat) (j : Int), (k < 39 ∨ 43 < k ∨ j ≠ i) → κ k j = κ0 k j
theorem frW.rf (i : Int) (κ : St) : frW i κ κ := fun _ _ _ => rfl
theorem frW.upd {i : Int} {κ0 κ : St} (h : frW i κ0 κ) {k : Nat} {v : Int} (hk : 39 ≤ k ∧ k ≤ 43) : frW i κ0 (up κ k i v) := fun k2 j hj => by
  by_cases e : k2 = k
  · rw [e, up_eq]
    rw [fup_ne (by omega)]
    exact h k j (by omega)
  · rw [up_ne e]; exact h k2 j hj
theorem frW.tr {i : Int} {a b d : St} (h1 : frW i a b) (h2 : frW i b d) : frW i a d := fun k j hj => (h2 k j hj).trans (h1 k j hj)
theorem frW.mono {i : Int} {a b : St} (h : frW i a b) (_ : True) : frW i a b := h
theorem frW.key {i : Int} {κ0 κ : St} (h : frW i κ0 κ) {k : Nat} (hk : k < 39 ∨ 43 < k) : κ k = κ0 k := funext fun j => h k j (by omega)
theorem CI.frW {P κ0 κ : St} {i : Int} (h : CI P κ0) (hf : frW i κ0 κ) : CI P κ := by
  refine ⟨fun k h1 h2 => (hf.key (by omega)).trans (h.1 k h1 h2), by rw [hf.key (by omega)]; exact h.2.1, fun j a b d => ?_⟩
  rw [hf.key (by omega)]
  refine h.2.2 j a b ?_
  unfold lsz at d ⊢
  rw [hf.key (by omega), hf.key (by omega)] at d
  exact d
theorem DS.frW {P κ0 κ : St} {D : Int → Int → Prop} {i : Int} (h : DS P D κ0) (hf : frW i κ0 κ) : DS P D κ := by
  unfold DS
  rw [hf.key (k := 60) (by omega), hf.key (k := 61) (by omega), hf.key (k := 62) (by omega), hf.key (k := 64) (by omega)]
  exact h
theorem Arr.frW {P κ0 κ : St} {bw cw i : Int} (h : Arr P bw cw κ0) (hf : frW i κ0 κ) : Arr P bw cw κ := by
  unfold Arr
  rw [hf.key (k := 50) (by omega), hf.key (k := 51) (by omega), hf.key (k := 52) (by omega), hf.key (k := 53) (by omega), hf.key (k := 54) (by omega), hf.key (k := 55) (by omega), hf.key (k := 56) (by omega)]
  exact h
theorem inW.frW {κ0 κ : St} {i j : Int} (h : inW κ0 j) (hf : frW i κ0 κ) : inW κ j := by
  unfold inW
  rw [hf.key (k := 0) (by omega)]
  exact h
theorem WB.frW {κ0 κ : St} {i j : Int} (h : WB κ0 j) (hf : frW i κ0 κ) (hj : j ≠ i) : WB κ j := by
  unfold WB
  rw [hf 39 j (by omega), hf 40 j (by omega), hf 41 j (by omega), hf 42 j (by omega), hf 43 j (by omega)]
  exact h
theorem WB.rest {κ : St} {i m : Int} (h : WB κ i) (hm : 1 ≤ m ∧ m ≤ 99) : WB (up (up κ 39 i ((1 : Nat) : Int)) 40 i m) i := by
  refine ⟨?_, ?_, h.2.2.1, h.2.2.2.1, h.2.2.2.2⟩
  · show 0 ≤ fup (κ 39) i 1 i ∧ fup (κ 39) i 1 i ≤ 3
    rw [fup_eq]; omega
  · show 1 ≤ fup (κ 40) i m i ∧ fup (κ 40) i m i ≤ 99
    rw [fup_eq]; exact hm
theorem WB.two {κ : St} {i x y : Int} (h : WB κ i) (hx : 1 ≤ x ∧ x ≤ 99) (hy : 1 ≤ y ∧ y ≤ 99) : WB (up (up (up κ 39 i ((2 : Nat) : Int)) 41 i x) 42 i y) i := by
  refine ⟨?_, h.2.1, ?_, ?_, h.2.2.2.2⟩
  · show 0 ≤ fup (κ 39) i 2 i ∧ fup (κ 39) i 2 i ≤ 3
    rw [fup_eq]; omega
  · show 1 ≤ fup (κ 41) i x i ∧ fup (κ 41) i x i ≤ 99
    rw [fup_eq]; exact hx
  · show 1 ≤ fup (κ 42) i y i ∧ fup (κ 42) i y i ≤ 99
    rw [fup_eq]; exact hy
theorem WB.slant {κ : St} {i l m : Int} (h : WB κ i) (hl : 0 ≤ l ∧ l ≤ 9) (hm : 1 ≤ m ∧ m ≤ 99) : WB (up (up (up κ 39 i ((3 : Nat) : Int)) 43 i l) 40 i m) i := by
  refine ⟨?_, ?_, h.2.2.1, h.2.2.2.1, ?_⟩
  · show 0 ≤ fup (κ 39) i 3 i ∧ fup (κ 39) i 3 i ≤ 3
    rw [fup_eq]; omega
  · show 1 ≤ fup (κ 40) i m i ∧ fup (κ 40) i m i ≤ 99
    rw [fup_eq]; exact hm
  · show 0 ≤ fup (κ 43) i l i ∧ fup (κ 43) i l i ≤ 9
    rw [fup_eq]; exact hl
theorem WB.whole {κ : St} {i : Int} (h : WB κ i) : WB (up κ 39 i ((0 : Nat) : Int)) i := by
  refine ⟨?_, h.2.1, h.2.2.1, h.2.2.2.1, h.2.2.2.2⟩
  show 0 ≤ fup (κ 39) i 0 i ∧ fup (κ 39) i 0 i ≤ 3
  rw [fup_eq]; omega
def rD (P : St) (D : Int → Int → Prop) (m : Int) : Prop := ∀ r d, D r d → Int.tmod (r * P 0 1 + d) m ≠ 0
def tD (D : Int → Int → Prop) (x y : Int) : Prop := ∀ r d, D r d → ¬ (Int.tmod r x = 0 ∧ Int.tmod d y = 0)
def sD (D : Int → Int → Prop) (l m : Int) : Prop := ∀ r d, D r d → Int.tmod (r + d * l) m ≠ 0
theorem ka_rest {P κ : St} {D : Int → Int → Prop} {i m : Int} (hm : 1 ≤ m) : (∀ r d, D r d → kaP (up (up κ 39 i ((1 : Nat) : Int)) 40 i m) i r d (P 0 1)) ↔ rD P D m := by
  have e : ∀ r d, kaP (up (up κ 39 i ((1 : Nat) : Int)) 40 i m) i r d (P 0 1) ↔ Int.tmod (r * P 0 1 + d) m ≠ 0 := fun r d => by
    have e1 : (up (up κ 39 i ((1 : Nat) : Int)) 40 i m) 39 i = 1 := fup_eq _ _ _
    have e2 : (up (up κ 39 i ((1 : Nat) : Int)) 40 i m) 40 i = m := fup_eq _ _ _
    unfold kaP
    rw [e1, e2, if_pos rfl, rs_f (by omega)]
  exact forall_congr' fun r => forall_congr' fun d => imp_congr Iff.rfl (e r d)
theorem ka_two {P κ : St} {D : Int → Int → Prop} {i x y : Int} (hx : 1 ≤ x) (hy : 1 ≤ y) : (∀ r d, D r d → kaP (up (up (up κ 39 i ((2 : Nat) : Int)) 41 i x) 42 i y) i r d (P 0 1)) ↔ tD D x y := by
  have e : ∀ r d, kaP (up (up (up κ 39 i ((2 : Nat) : Int)) 41 i x) 42 i y) i r d (P 0 1) ↔ ¬ (Int.tmod r x = 0 ∧ Int.tmod d y = 0) := fun r d => by
    have e1 : (up (up (up κ 39 i ((2 : Nat) : Int)) 41 i x) 42 i y) 39 i = 2 := fup_eq _ _ _
    have e2 : (up (up (up κ 39 i ((2 : Nat) : Int)) 41 i x) 42 i y) 41 i = x := fup_eq _ _ _
    have e3 : (up (up (up κ 39 i ((2 : Nat) : Int)) 41 i x) 42 i y) 42 i = y := fup_eq _ _ _
    unfold kaP
    rw [e1, e2, e3, if_neg (by decide), if_pos rfl, rs_f (by omega), rs_f (by omega)]
    omega
  exact forall_congr' fun r => forall_congr' fun d => imp_congr Iff.rfl (e r d)
theorem ka_slant {P κ : St} {D : Int → Int → Prop} {i l m : Int} (hm : 1 ≤ m) : (∀ r d, D r d → kaP (up (up (up κ 39 i ((3 : Nat) : Int)) 43 i l) 40 i m) i r d (P 0 1)) ↔ sD D l m := by
  have e : ∀ r d, kaP (up (up (up κ 39 i ((3 : Nat) : Int)) 43 i l) 40 i m) i r d (P 0 1) ↔ Int.tmod (r + d * l) m ≠ 0 := fun r d => by
    have e1 : (up (up (up κ 39 i ((3 : Nat) : Int)) 43 i l) 40 i m) 39 i = 3 := fup_eq _ _ _
    have e2 : (up (up (up κ 39 i ((3 : Nat) : Int)) 43 i l) 40 i m) 40 i = m := fup_eq _ _ _
    have e3 : (up (up (up κ 39 i ((3 : Nat) : Int)) 43 i l) 40 i m) 43 i = l := fup_eq _ _ _
    unfold kaP
    rw [e1, e2, e3, if_neg (by decide), if_neg (by decide), if_pos rfl, rs_f (by omega)]
  exact forall_congr' fun r => forall_congr' fun d => imp_congr Iff.rfl (e r d)
theorem DS.cnt {P κ : St} {D : Int → Int → Prop} (h : DS P D κ) : 0 ≤ κ 64 0 ∧ κ 64 0 ≤ 225 := by
  rw [h.2.2.1]
  exact ct_b _ 225 (by decide)
/-- the least rest is found, or there is none to 99 -/
def LRs (P : St) (D : Int → Int → Prop) (v i : Int) (κ2 : St) : Prop := ((IsLst (rD P D) 1 v ∧ v ≤ 99) ∧ κ2 39 i = 1 ∧ κ2 40 i = v) ∨ (v = -1 ∧ ∀ j, 1 ≤ j → j < 100 → ¬ rD P D j)
set_option maxRecDepth 100000 in
set_option maxHeartbeats 4000000 in
theorem k_w2_areKeptApart (en : Nat → Nat) (c : Nat → Nat) (κ : St) (i : Int) (P : St) (D : Int → Int → Prop) (hp : MI P ∧ CI P κ ∧ DS P D κ ∧ inW κ i ∧ WB κ i) : MC (EN en) yX2_areKeptApart sX2_areKeptApart [.ref (c 12), .ref (c (34 + 8 * Int.toNat i))] (fm (cO en c κ)) (fun v w => v = some (.int (zI (bz (dcd (∀ r d, D r d → kaP κ i r d (P 0 1)))))) ∧ w = fm (cO en c κ)) := by
  refine MC.of (EN.stb en) [some (.ref (c 12)), some (.ref (c (34 + 8 * Int.toNat i))), none] 1 rfl rfl rfl (by simp [Value.category]) (Nat.le_of_ble_eq_true rfl) (fun K hK hR => ?_)
  obtain ⟨hM, hC, hp⟩ := hp
  have hN4 := hM.2.2.1
  obtain ⟨hD, hw, hB⟩ := hp
  have hcn := hD.cnt
  have hm2 := hM.2.1
  have loop_2 : ∀ (n0 : Nat) (k : Int), (κ 64 0 - k).toNat = n0 → (0 ≤ k ∧ k ≤ κ 64 0) → (∀ q, 0 ≤ q → q < k → kaP κ i (κ 61 q) (κ 62 q) (P 0 1)) → V K sX2_areKeptApart 0 0 (fm (cO en c κ)) [some (.ref (c 12)), some (.ref (c (34 + 8 * Int.toNat i))), some (.int (zI k))] [] 2 := by
    intro n0
    induction n0 using Nat.strongRecOn with
    | _ n0 ih_2 =>
    intro k hm_2 hk hq
    refine V_iload_n dX2_areKeptApart_2 rfl ?_
    refine V_aload_n dX2_areKeptApart_3 rfl ?_
    refine VO_getf (C0 := RX2) (T := TX2) (N := 7) (ci := 2) (fs := dfF c κ) 12 4 iwX2 (by decide) w148 (Or.inl rfl) rfl (at_df) rfl dX2_areKeptApart_4 ?_
    refine V_icmp_ge (tgt := 41) dX2_areKeptApart_7 (by decide) ⟨⟨by omega, by omega⟩, ⟨by omega, by omega⟩⟩ (fun c_1 => ?_) (fun c_1 => ?_)
    · refine V_iconst dX2_areKeptApart_41 ?_
      show V K sX2_areKeptApart 0 0 (fm (cO en c κ)) _ [.int (zI (bz true))] 42
      refine V_zret hR rfl (Nat.le_of_ble_eq_true rfl) (Nat.le_of_ble_eq_true rfl) dX2_areKeptApart_42 ?_
      exact ⟨dcdT (fun r d h => by
        obtain ⟨-, q, h1, h2, h3⟩ := hD.2.2.2.2 r d h
        rw [← h2, ← h3]
        exact hq q h1.1 (by omega)), rfl⟩
    · have hDk := hD.2.2.2.1 k hk.1 (by omega)
      have hbk := (hD.2.2.2.2 _ _ hDk).1
      refine V_aload_n dX2_areKeptApart_10 rfl ?_
      refine V_aload_n dX2_areKeptApart_11 rfl ?_
      refine VO_getf (C0 := RX2) (T := TX2) (N := 7) (ci := 2) (fs := dfF c κ) 12 1 iwX2 (by decide) w145 (Or.inl rfl) rfl (at_df) rfl dX2_areKeptApart_12 ?_
      refine V_iload_n dX2_areKeptApart_15 rfl ?_
      refine VO_iald 14 at_df_rowDifference ⟨by omega, by omega⟩ (by decide) dX2_areKeptApart_16 ?_
      refine V_aload_n dX2_areKeptApart_17 rfl ?_
      refine VO_getf (C0 := RX2) (T := TX2) (N := 7) (ci := 2) (fs := dfF c κ) 12 2 iwX2 (by decide) w146 (Or.inl rfl) rfl (at_df) rfl dX2_areKeptApart_18 ?_
      refine V_iload_n dX2_areKeptApart_21 rfl ?_
      refine VO_iald 15 at_df_columnDifference ⟨by omega, by omega⟩ (by decide) dX2_areKeptApart_22 ?_
      refine V_aload_n dX2_areKeptApart_23 rfl ?_
      refine VO_getf (C0 := RX2) (T := TX2) (N := 7) (ci := 2) (fs := dfF c κ) 12 6 iwX2 (by decide) w150 (Or.inl rfl) rfl (at_df) rfl dX2_areKeptApart_24 ?_
      refine V_eqT (y := zI (P 0 1)) (congrArg zI hD.1.2) ?_
      refine VO_callVF (As := [.int (zI (κ 61 k)), .int (zI (κ 62 k)), .int (zI (P 0 1))]) (b := c (34 + 8 * Int.toNat i)) (i := 34 + 8 * Int.toNat i) (ci := 7) (fs := wnF en κ i) (T := TX8) (N := 5) (at_wn (hw)) rfl hK (k_w8_keepsApart en c κ i (κ 61 k) (κ 62 k) (P 0 1) (⟨hw, hB, hbk.1, hbk.2, hm2⟩)) mokX8_keepsApart w414 w415 w416 ⟨Nat.le_of_ble_eq_true rfl, Nat.le_of_ble_eq_true rfl⟩ rfl (Nat.le_of_ble_eq_true rfl) ⟨Nat.le_of_ble_eq_true rfl, Nat.le_of_ble_eq_true rfl⟩ dX2_areKeptApart_27 (fun v w p_2 => ?_)
      obtain ⟨rfl, rfl⟩ := p_2
      show V K sX2_areKeptApart 0 0 (fm (cO en c κ)) [some (.ref (c 12)), some (.ref (c (34 + 8 * Int.toNat i))), some (.int (zI k))] [.int (zI (bz (dcd (kaP κ i (κ 61 k) (κ 62 k) (P 0 1)))))] 30
      refine V_ifc_ne (tgt := 35) dX2_areKeptApart_30 (by decide) (fun c_3 => ?_) (fun c_3 => ?_)
      · refine V_iinc (L' := [some (.ref (c 12)), some (.ref (c (34 + 8 * Int.toNat i))), some (.int (zI (k + 1)))]) dX2_areKeptApart_35 (by decide) rfl rfl ?_
        refine V_goto (tgt := 2) dX2_areKeptApart_38 (by decide) ?_
        refine ih_2 _ (by omega) (k + 1) rfl ?_ ?_
        · omega
        · exact fun q a b => by
            by_cases e : q = k
            · rw [e]; exact c_3
            · exact hq q a (by omega)
      · refine V_iconst dX2_areKeptApart_33 ?_
        show V K sX2_areKeptApart 0 0 (fm (cO en c κ)) _ [.int (zI (bz false))] 34
        refine V_zret hR rfl (Nat.le_of_ble_eq_true rfl) (Nat.le_of_ble_eq_true rfl) dX2_areKeptApart_34 ?_
        exact ⟨dcdF (fun h => c_3 (h _ _ hDk)), rfl⟩
  have seg_2 : ∀ (k : Int), (0 ≤ k ∧ k ≤ κ 64 0) → (∀ q, 0 ≤ q → q < k → kaP κ i (κ 61 q) (κ 62 q) (P 0 1)) → V K sX2_areKeptApart 0 0 (fm (cO en c κ)) [some (.ref (c 12)), some (.ref (c (34 + 8 * Int.toNat i))), some (.int (zI k))] [] 2 := fun k hk hq => loop_2 _ k rfl hk hq
  refine V_iconst dX2_areKeptApart_0 ?_
  refine V_istore_n (L' := [some (.ref (c 12)), some (.ref (c (34 + 8 * Int.toNat i))), some (.int (zI 0))]) dX2_areKeptApart_1 (by decide) rfl ?_
  refine seg_2 0 ?_ ?_
  · omega
  · exact fun q a b => absurd b (by omega)
set_option maxRecDepth 100000 in
set_option maxHeartbeats 4000000 in
theorem k_w2_leastRestModulus (en : Nat → Nat) (c : Nat → Nat) (κ : St) (i : Int) (P : St) (D : Int → Int → Prop) (hp : MI P ∧ CI P κ ∧ DS P D κ ∧ inW κ i ∧ WB κ i) : MC (EN en) yX2_leastRestModulus sX2_leastRestModulus [.ref (c 12), .ref (c (34 + 8 * Int.toNat i))] (fm (cO en c κ)) (fun v w => ∃ (x : Int) (κ2 : St), v = some (.int (zI x)) ∧ w = fm (cO en c κ2) ∧ (CI P κ2) ∧ (frW i κ κ2) ∧ (WB κ2 i) ∧ (LRs P D x i κ2)) := by
  refine MC.of (EN.stb en) [some (.ref (c 12)), some (.ref (c (34 + 8 * Int.toNat i))), none] 1 rfl rfl rfl (by simp [Value.category]) (Nat.le_of_ble_eq_true rfl) (fun K hK hR => ?_)
  obtain ⟨hM, hC, hp⟩ := hp
  have hN4 := hM.2.2.1
  obtain ⟨hD, hw, hB⟩ := hp
  obtain ⟨κ0, hκ0⟩ : ∃ κ0 : St, κ0 = κ := ⟨κ, rfl⟩
  have hF : frW i κ0 κ := by rw [hκ0]; exact frW.rf _ _
  have loop_2 : ∀ (n0 : Nat) (κ : St) (m : Int), (100 - m).toNat = n0 → (CI P κ) → (1 ≤ m ∧ m ≤ 100) → (frW i κ0 κ) → (DS P D κ) → (inW κ i) → (WB κ i) → (∀ j, 1 ≤ j → j < m → ¬ rD P D j) → V K sX2_leastRestModulus 0 0 (fm (cO en c κ)) [some (.ref (c 12)), some (.ref (c (34 + 8 * Int.toNat i))), some (.int (zI m))] [] 2 := by
    intro n0
    induction n0 using Nat.strongRecOn with
    | _ n0 ih_2 =>
    intro κ m hm_2 hC hm hF hD hw hB hL
    refine V_iload_n dX2_leastRestModulus_2 rfl ?_
    refine V_bipush dX2_leastRestModulus_3 (by decide) ?_
    refine V_icmp_gt (tgt := 29) dX2_leastRestModulus_5 (by decide) ⟨⟨by omega, by omega⟩, ⟨by omega, by omega⟩⟩ (fun c_1 => ?_) (fun c_1 => ?_)
    · refine V_iconst dX2_leastRestModulus_29 ?_
      refine V_iret hR rfl (Nat.le_of_ble_eq_true rfl) (Nat.le_of_ble_eq_true rfl) dX2_leastRestModulus_30 ?_
      exact ⟨-1, κ, rfl, rfl, hC, by rw [← hκ0]; exact hF, hB, Or.inr ⟨rfl, fun j a b => hL j a (by omega)⟩⟩
    · refine V_aload_n dX2_leastRestModulus_8 rfl ?_
      refine V_iload_n dX2_leastRestModulus_9 rfl ?_
      refine VO_callVF (As := [.int (zI m)]) (b := c (34 + 8 * Int.toNat i)) (i := 34 + 8 * Int.toNat i) (ci := 7) (fs := wnF en κ i) (T := TX8) (N := 5) (at_wn (hw)) rfl hK (k_w8_becomeRest en c κ i m (hw)) mokX8_becomeRest w404 w405 w406 ⟨Nat.le_of_ble_eq_true rfl, Nat.le_of_ble_eq_true rfl⟩ rfl (Nat.le_of_ble_eq_true rfl) ⟨Nat.le_of_ble_eq_true rfl, Nat.le_of_ble_eq_true rfl⟩ dX2_leastRestModulus_10 (fun v w p_2 => ?_)
      obtain ⟨rfl, rfl⟩ := p_2
      show V K sX2_leastRestModulus 0 0 (fm (cO en c (up (up κ 39 i ((1 : Nat) : Int)) 40 i m))) [some (.ref (c 12)), some (.ref (c (34 + 8 * Int.toNat i))), some (.int (zI m))] [] 13
      refine V_aload_n dX2_leastRestModulus_13 rfl ?_
      refine V_aload_n dX2_leastRestModulus_14 rfl ?_
      refine VO_callVF (As := [.ref (c (34 + 8 * Int.toNat i))]) (b := c 12) (i := 12) (ci := 2) (fs := dfF c (up (up κ 39 i ((1 : Nat) : Int)) 40 i m)) (T := TX2) (N := 7) (at_df) rfl hK (k_w2_areKeptApart en c (up (up κ 39 i ((1 : Nat) : Int)) 40 i m) i P D ⟨hM, ((((hC).up (by decide))).up (by decide)), hD, hw, hB.rest ⟨hm.1, by omega⟩⟩) mokX2_areKeptApart w410 w411 w412 ⟨Nat.le_of_ble_eq_true rfl, Nat.le_of_ble_eq_true rfl⟩ rfl (Nat.le_of_ble_eq_true rfl) ⟨Nat.le_of_ble_eq_true rfl, Nat.le_of_ble_eq_true rfl⟩ dX2_leastRestModulus_15 (fun v w p_3 => ?_)
      obtain ⟨rfl, rfl⟩ := p_3
      show V K sX2_leastRestModulus 0 0 (fm (cO en c (up (up κ 39 i ((1 : Nat) : Int)) 40 i m))) [some (.ref (c 12)), some (.ref (c (34 + 8 * Int.toNat i))), some (.int (zI m))] [.int (zI (bz (dcd (∀ r d, D r d → kaP (up (up κ 39 i ((1 : Nat) : Int)) 40 i m) i r d (P 0 1)))))] 18
      refine V_ifc_eq (tgt := 23) dX2_leastRestModulus_18 (by decide) (fun c_4 => ?_) (fun c_4 => ?_)
      · refine V_iinc (L' := [some (.ref (c 12)), some (.ref (c (34 + 8 * Int.toNat i))), some (.int (zI (m + 1)))]) dX2_leastRestModulus_23 (by decide) rfl rfl ?_
        refine V_goto (tgt := 2) dX2_leastRestModulus_26 (by decide) ?_
        refine ih_2 _ (by omega) (up (up κ 39 i ((1 : Nat) : Int)) 40 i m) (m + 1) rfl ?_ ?_ ?_ ?_ ?_ ?_ ?_
        · exact ((((hC).up (by decide))).up (by decide))
        · omega
        · exact ((((hF).upd (by decide))).upd (by decide))
        · exact hD
        · exact hw
        · exact hB.rest ⟨hm.1, by omega⟩
        · exact fun j a b => by
            by_cases e : j = m
            · rw [e]; exact fun z => c_4 ((ka_rest hm.1).mpr z)
            · exact hL j a (by omega)
      · refine V_iload_n dX2_leastRestModulus_21 rfl ?_
        refine V_iret hR rfl (Nat.le_of_ble_eq_true rfl) (Nat.le_of_ble_eq_true rfl) dX2_leastRestModulus_22 ?_
        exact ⟨m, _, rfl, rfl, ((((hC).up (by decide))).up (by decide)), by rw [← hκ0]; exact ((((hF).upd (by decide))).upd (by decide)), hB.rest ⟨hm.1, by omega⟩, Or.inl ⟨⟨⟨hm.1, (ka_rest hm.1).mp c_4, hL⟩, by omega⟩, fup_eq _ _ _, fup_eq _ _ _⟩⟩
  have seg_2 : ∀ (κ : St) (m : Int), (CI P κ) → (1 ≤ m ∧ m ≤ 100) → (frW i κ0 κ) → (DS P D κ) → (inW κ i) → (WB κ i) → (∀ j, 1 ≤ j → j < m → ¬ rD P D j) → V K sX2_leastRestModulus 0 0 (fm (cO en c κ)) [some (.ref (c 12)), some (.ref (c (34 + 8 * Int.toNat i))), some (.int (zI m))] [] 2 := fun κ m hC hm hF hD hw hB hL => loop_2 _ κ m rfl hC hm hF hD hw hB hL
  refine V_iconst dX2_leastRestModulus_0 ?_
  refine V_istore_n (L' := [some (.ref (c 12)), some (.ref (c (34 + 8 * Int.toNat i))), some (.int (zI 1))]) dX2_leastRestModulus_1 (by decide) rfl ?_
  refine seg_2 κ 1 ?_ ?_ ?_ ?_ ?_ ?_ ?_
  · exact hC
  · omega
  · exact hF
  · exact hD
  · exact hw
  · exact hB
  · exact fun j a b => absurd b (by omega)

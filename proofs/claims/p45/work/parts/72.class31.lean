/-! the class: a window made as the least one -/
/-- the window i is as the window j was -/
def cpW (i j : Int) (κ κ2 : St) : Prop := ∀ k : Nat, 39 ≤ k → k ≤ 43 → κ2 k i = κ k j
theorem WB.cp {i j : Int} {κ κ2 : St} (h : WB κ j) (hc : cpW i j κ κ2) : WB κ2 i := by
  unfold WB
  rw [hc 39 (by decide) (by decide), hc 40 (by decide) (by decide), hc 41 (by decide) (by decide), hc 42 (by decide) (by decide), hc 43 (by decide) (by decide)]
  exact h
set_option maxRecDepth 100000 in
set_option maxHeartbeats 4000000 in
theorem k_w8_become (en : Nat → Nat) (c : Nat → Nat) (κ : St) (i : Int) (j : Int) (hp : inW κ i ∧ inW κ j ∧ 0 ≤ κ 39 j) : MC (EN en) yX8_become sX8_become [.ref (c (34 + 8 * Int.toNat i)), .ref (c (34 + 8 * Int.toNat j))] (fm (cO en c κ)) (fun v w => ∃ κ2 : St, v = none ∧ w = fm (cO en c κ2) ∧ (frW i κ κ2) ∧ (cpW i j κ κ2)) := by
  refine MC.of (EN.stb en) [some (.ref (c (34 + 8 * Int.toNat i))), some (.ref (c (34 + 8 * Int.toNat j)))] 0 rfl rfl rfl (by simp [Value.category]) (Nat.le_of_ble_eq_true rfl) (fun K hK hR => ?_)
  obtain ⟨hi, hj, h9⟩ := hp
  refine V_aload_n dX8_become_0 rfl ?_
  refine V_aload_n dX8_become_1 rfl ?_
  refine VO_getf (C0 := RX8) (T := TX8) (N := 5) (ci := 7) (fs := wnF en κ j) (34 + 8 * Int.toNat j) 0 iwX8 (by decide) w175 (Or.inl rfl) rfl (at_wn (hj)) rfl dX8_become_2 ?_
  show V K sX8_become 0 0 (fm (cO en c κ)) [some (.ref (c (34 + 8 * Int.toNat i))), some (.ref (c (34 + 8 * Int.toNat j)))] [.ref (en (Int.toNat (κ 39 j))), .ref (c (34 + 8 * Int.toNat i))] 5
  refine VO_putf (C0 := RX8) (T := TX8) (N := 5) (ci := 7) (fs := wnF en κ i) (34 + 8 * Int.toNat i) 0 iwX8 (by decide) w175 (Or.inl rfl) tyX8 tyX8_ok nmX8 rfl rfl (at_wn (hi)) (Nat.le_of_ble_eq_true rfl) rfl rfl dX8_become_5 (st_wn_kind (Int.toNat (κ 39 j)) (hi)) ?_
  refine V_aload_n dX8_become_8 rfl ?_
  refine V_aload_n dX8_become_9 rfl ?_
  refine VO_getf (C0 := RX8) (T := TX8) (N := 5) (ci := 7) (fs := wnF en (up κ 39 i ((Int.toNat (κ 39 j) : Nat) : Int)) j) (34 + 8 * Int.toNat j) 1 iwX8 (by decide) w176 (Or.inl rfl) rfl (at_wn (hj)) rfl dX8_become_10 ?_
  refine VO_putf (C0 := RX8) (T := TX8) (N := 5) (ci := 7) (fs := wnF en (up κ 39 i ((Int.toNat (κ 39 j) : Nat) : Int)) i) (34 + 8 * Int.toNat i) 1 iwX8 (by decide) w176 (Or.inl rfl) tyX8 tyX8_ok nmX8 rfl rfl (at_wn (hi)) (Nat.le_of_ble_eq_true rfl) rfl rfl dX8_become_13 (st_wn_modulus ((up κ 39 i ((Int.toNat (κ 39 j) : Nat) : Int)) 40 j) (hi)) ?_
  refine V_aload_n dX8_become_16 rfl ?_
  refine V_aload_n dX8_become_17 rfl ?_
  refine VO_getf (C0 := RX8) (T := TX8) (N := 5) (ci := 7) (fs := wnF en (up (up κ 39 i ((Int.toNat (κ 39 j) : Nat) : Int)) 40 i ((up κ 39 i ((Int.toNat (κ 39 j) : Nat) : Int)) 40 j)) j) (34 + 8 * Int.toNat j) 2 iwX8 (by decide) w178 (Or.inl rfl) rfl (at_wn (hj)) rfl dX8_become_18 ?_
  refine VO_putf (C0 := RX8) (T := TX8) (N := 5) (ci := 7) (fs := wnF en (up (up κ 39 i ((Int.toNat (κ 39 j) : Nat) : Int)) 40 i ((up κ 39 i ((Int.toNat (κ 39 j) : Nat) : Int)) 40 j)) i) (34 + 8 * Int.toNat i) 2 iwX8 (by decide) w178 (Or.inl rfl) tyX8 tyX8_ok nmX8 rfl rfl (at_wn (hi)) (Nat.le_of_ble_eq_true rfl) rfl rfl dX8_become_21 (st_wn_rowModulus ((up (up κ 39 i ((Int.toNat (κ 39 j) : Nat) : Int)) 40 i ((up κ 39 i ((Int.toNat (κ 39 j) : Nat) : Int)) 40 j)) 41 j) (hi)) ?_
  refine V_aload_n dX8_become_24 rfl ?_
  refine V_aload_n dX8_become_25 rfl ?_
  refine VO_getf (C0 := RX8) (T := TX8) (N := 5) (ci := 7) (fs := wnF en (up (up (up κ 39 i ((Int.toNat (κ 39 j) : Nat) : Int)) 40 i ((up κ 39 i ((Int.toNat (κ 39 j) : Nat) : Int)) 40 j)) 41 i ((up (up κ 39 i ((Int.toNat (κ 39 j) : Nat) : Int)) 40 i ((up κ 39 i ((Int.toNat (κ 39 j) : Nat) : Int)) 40 j)) 41 j)) j) (34 + 8 * Int.toNat j) 3 iwX8 (by decide) w180 (Or.inl rfl) rfl (at_wn (hj)) rfl dX8_become_26 ?_
  refine VO_putf (C0 := RX8) (T := TX8) (N := 5) (ci := 7) (fs := wnF en (up (up (up κ 39 i ((Int.toNat (κ 39 j) : Nat) : Int)) 40 i ((up κ 39 i ((Int.toNat (κ 39 j) : Nat) : Int)) 40 j)) 41 i ((up (up κ 39 i ((Int.toNat (κ 39 j) : Nat) : Int)) 40 i ((up κ 39 i ((Int.toNat (κ 39 j) : Nat) : Int)) 40 j)) 41 j)) i) (34 + 8 * Int.toNat i) 3 iwX8 (by decide) w180 (Or.inl rfl) tyX8 tyX8_ok nmX8 rfl rfl (at_wn (hi)) (Nat.le_of_ble_eq_true rfl) rfl rfl dX8_become_29 (st_wn_columnModulus ((up (up (up κ 39 i ((Int.toNat (κ 39 j) : Nat) : Int)) 40 i ((up κ 39 i ((Int.toNat (κ 39 j) : Nat) : Int)) 40 j)) 41 i ((up (up κ 39 i ((Int.toNat (κ 39 j) : Nat) : Int)) 40 i ((up κ 39 i ((Int.toNat (κ 39 j) : Nat) : Int)) 40 j)) 41 j)) 42 j) (hi)) ?_
  refine V_aload_n dX8_become_32 rfl ?_
  refine V_aload_n dX8_become_33 rfl ?_
  refine VO_getf (C0 := RX8) (T := TX8) (N := 5) (ci := 7) (fs := wnF en (up (up (up (up κ 39 i ((Int.toNat (κ 39 j) : Nat) : Int)) 40 i ((up κ 39 i ((Int.toNat (κ 39 j) : Nat) : Int)) 40 j)) 41 i ((up (up κ 39 i ((Int.toNat (κ 39 j) : Nat) : Int)) 40 i ((up κ 39 i ((Int.toNat (κ 39 j) : Nat) : Int)) 40 j)) 41 j)) 42 i ((up (up (up κ 39 i ((Int.toNat (κ 39 j) : Nat) : Int)) 40 i ((up κ 39 i ((Int.toNat (κ 39 j) : Nat) : Int)) 40 j)) 41 i ((up (up κ 39 i ((Int.toNat (κ 39 j) : Nat) : Int)) 40 i ((up κ 39 i ((Int.toNat (κ 39 j) : Nat) : Int)) 40 j)) 41 j)) 42 j)) j) (34 + 8 * Int.toNat j) 4 iwX8 (by decide) w182 (Or.inl rfl) rfl (at_wn (hj)) rfl dX8_become_34 ?_
  refine VO_putf (C0 := RX8) (T := TX8) (N := 5) (ci := 7) (fs := wnF en (up (up (up (up κ 39 i ((Int.toNat (κ 39 j) : Nat) : Int)) 40 i ((up κ 39 i ((Int.toNat (κ 39 j) : Nat) : Int)) 40 j)) 41 i ((up (up κ 39 i ((Int.toNat (κ 39 j) : Nat) : Int)) 40 i ((up κ 39 i ((Int.toNat (κ 39 j) : Nat) : Int)) 40 j)) 41 j)) 42 i ((up (up (up κ 39 i ((Int.toNat (κ 39 j) : Nat) : Int)) 40 i ((up κ 39 i ((Int.toNat (κ 39 j) : Nat) : Int)) 40 j)) 41 i ((up (up κ 39 i ((Int.toNat (κ 39 j) : Nat) : Int)) 40 i ((up κ 39 i ((Int.toNat (κ 39 j) : Nat) : Int)) 40 j)) 41 j)) 42 j)) i) (34 + 8 * Int.toNat i) 4 iwX8 (by decide) w182 (Or.inl rfl) tyX8 tyX8_ok nmX8 rfl rfl (at_wn (hi)) (Nat.le_of_ble_eq_true rfl) rfl rfl dX8_become_37 (st_wn_slant ((up (up (up (up κ 39 i ((Int.toNat (κ 39 j) : Nat) : Int)) 40 i ((up κ 39 i ((Int.toNat (κ 39 j) : Nat) : Int)) 40 j)) 41 i ((up (up κ 39 i ((Int.toNat (κ 39 j) : Nat) : Int)) 40 i ((up κ 39 i ((Int.toNat (κ 39 j) : Nat) : Int)) 40 j)) 41 j)) 42 i ((up (up (up κ 39 i ((Int.toNat (κ 39 j) : Nat) : Int)) 40 i ((up κ 39 i ((Int.toNat (κ 39 j) : Nat) : Int)) 40 j)) 41 i ((up (up κ 39 i ((Int.toNat (κ 39 j) : Nat) : Int)) 40 i ((up κ 39 i ((Int.toNat (κ 39 j) : Nat) : Int)) 40 j)) 41 j)) 42 j)) 43 j) (hi)) ?_
  refine V_vret hR rfl (Nat.le_of_ble_eq_true rfl) (Nat.le_of_ble_eq_true rfl) dX8_become_40 ?_
  refine ⟨_, rfl, rfl, (((((frW.rf i κ).upd (by decide)).upd (by decide)).upd (by decide)).upd (by decide)).upd (by decide), fun k h1 h2 => ?_⟩
  obtain rfl | rfl | rfl | rfl | rfl : k = 39 ∨ k = 40 ∨ k = 41 ∨ k = 42 ∨ k = 43 := by omega
  · exact (fup_eq _ _ _).trans (Int.toNat_of_nonneg h9)
  · exact fup_eq _ _ _
  · exact fup_eq _ _ _
  · exact fup_eq _ _ _
  · exact fup_eq _ _ _

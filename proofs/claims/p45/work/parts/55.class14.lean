/-! the class: the least rest by differences -/
theorem abs_mod {v m : Int} (hm : 1 ≤ m) : absI v % m = 0 ↔ Int.tmod v m = 0 := by
  unfold absI
  by_cases h : v < 0
  · rw [if_pos h]
    have h1 : Int.tmod v m = -((-v) % m) := by
      have h2 : Int.tmod v m = -(Int.tmod (-v) m) := by rw [Int.neg_tmod]; omega
      rw [h2, Int.tmod_eq_emod_of_nonneg (by omega)]
    rw [h1]; omega
  · rw [if_neg h, Int.tmod_eq_emod_of_nonneg (by omega)]
theorem mod_gap {q t m : Int} (hm : 1 ≤ m) (hq : q % m = 0) (ht : t % m = 0) (h1 : t ≤ q) (h2 : q < t + m) : q = t := by
  have h3 : (q - t) % m = 0 := by rw [Int.sub_emod, hq, ht]; simp
  rw [Int.emod_eq_of_lt (by omega) (by omega)] at h3
  omega
/-- values of the pairs in line -/
def VQ (P : St) (D : Int → Int → Prop) (q : Int) : Prop := ∃ r d, D r d ∧ absI (r * P 0 1 + d) = q
def VB (P : St) (D : Int → Int → Prop) : Prop := ∀ r d, D r d → (-64 < r * P 0 1 + d ∧ r * P 0 1 + d < 64) ∧ r * P 0 1 + d ≠ 0
theorem VQ.iff {P : St} {D : Int → Int → Prop} {m : Int} (hm : 1 ≤ m) (hV : VB P D) : (∃ q, (0 < q ∧ q < 64) ∧ VQ P D q ∧ q % m = 0) ↔ ¬ rD P D m := by
  constructor
  · rintro ⟨q, -, ⟨r, d, h1, rfl⟩, h2⟩ z
    exact z r d h1 ((abs_mod hm).mp h2)
  · intro h
    refine Classical.byContradiction fun hn => h (fun r d h1 h2 => hn ⟨absI (r * P 0 1 + d), ?_, ⟨r, d, h1, rfl⟩, (abs_mod hm).mpr h2⟩)
    have := hV r d h1
    unfold absI; split <;> omega
theorem rD_64 {P : St} {D : Int → Int → Prop} (hV : VB P D) : rD P D 64 := fun r d h => by
  have := hV r d h
  rw [tmod_small (by omega) (by omega)]
  exact this.2
/-- values of the first n entries -/
def EQ (P κ : St) (n q : Int) : Prop := ∃ e, (0 ≤ e ∧ e < n) ∧ absI (κ 61 e * P 0 1 + κ 62 e) = q
theorem EQ.step {P κ : St} {n q : Int} (hn : 0 ≤ n) : EQ P κ (n + 1) q ↔ (EQ P κ n q ∨ q = absI (κ 61 n * P 0 1 + κ 62 n)) := by
  constructor
  · rintro ⟨e, h1, h2⟩
    by_cases he : e = n
    · rw [he] at h2; exact Or.inr h2.symm
    · exact Or.inl ⟨e, by omega, h2⟩
  · rintro (⟨e, h1, h2⟩ | h)
    · exact ⟨e, by omega, h2⟩
    · exact ⟨n, by omega, h.symm⟩
theorem EQ.zero {P κ : St} {q : Int} : ¬ EQ P κ 0 q := by
  rintro ⟨e, h1, -⟩; omega
theorem DS.EQ {P κ : St} {D : Int → Int → Prop} {q : Int} (h : DS P D κ) : EQ P κ (κ 64 0) q ↔ VQ P D q := by
  constructor
  · rintro ⟨e, h1, h2⟩
    exact ⟨_, _, h.2.2.2.1 e h1.1 h1.2, h2⟩
  · rintro ⟨r, d, h1, h2⟩
    obtain ⟨-, i, h3, h4, h5⟩ := h.2.2.2.2 r d h1
    exact ⟨i, h3, by rw [h4, h5]; exact h2⟩
theorem DS.fr63 {P κ0 κ : St} {D : Int → Int → Prop} (h : DS P D κ0) (hf : fr [63] κ0 κ) : DS P D κ := by
  unfold DS
  rw [hf 60 (by decide), hf 61 (by decide), hf 62 (by decide), hf 64 (by decide)]
  exact h
set_option maxRecDepth 100000 in
set_option maxHeartbeats 4000000 in
theorem k_w2_dividesOne (en : Nat → Nat) (c : Nat → Nat) (κ : St) (m : Int) (P : St) (Q : Int → Prop) (hp : MI P ∧ CI P κ ∧ (1 ≤ m ∧ m ≤ 64) ∧ (∀ q, 0 ≤ q → q < 64 → κ 63 q = bz (dcd (Q q)))) : MC (EN en) yX2_dividesOne sX2_dividesOne [.ref (c 12), .int (zI m)] (fm (cO en c κ)) (fun v w => v = some (.int (zI (bz (dcd (∃ q, (0 < q ∧ q < 64) ∧ Q q ∧ q % m = 0))))) ∧ w = fm (cO en c κ)) := by
  refine MC.of (EN.stb en) [some (.ref (c 12)), some (.int (zI m)), none] 1 rfl rfl rfl (by simp [Value.category]) (Nat.le_of_ble_eq_true rfl) (fun K hK hR => ?_)
  obtain ⟨hM, hC, hp⟩ := hp
  have hN4 := hM.2.2.1
  obtain ⟨hm, hb⟩ := hp
  have loop_2 : ∀ (n0 : Nat) (t : Int), (128 - t).toNat = n0 → (m ≤ t ∧ t ≤ 128) → (t % m = 0) → (∀ q, 0 < q → q < t → q % m = 0 → ¬ Q q) → V K sX2_dividesOne 0 0 (fm (cO en c κ)) [some (.ref (c 12)), some (.int (zI m)), some (.int (zI t))] [] 2 := by
    intro n0
    induction n0 using Nat.strongRecOn with
    | _ n0 ih_2 =>
    intro t hm_2 ht hz hn
    refine V_iload_n dX2_dividesOne_2 rfl ?_
    refine V_aload_n dX2_dividesOne_3 rfl ?_
    refine VO_getf (C0 := RX2) (T := TX2) (N := 7) (ci := 2) (fs := dfF c κ) 12 3 iwX2 (by decide) w147 (Or.inl rfl) rfl (at_df) rfl dX2_dividesOne_4 ?_
    refine VO_alen 16 (at_df_inLine) (fun _ => rfl) dX2_dividesOne_7 ?_
    show V K sX2_dividesOne 0 0 (fm (cO en c κ)) [some (.ref (c 12)), some (.int (zI m)), some (.int (zI t))] [.int (zI 64), .int (zI t)] 8
    refine V_icmp_ge (tgt := 29) dX2_dividesOne_8 (by decide) ⟨⟨by omega, by omega⟩, ⟨by omega, by omega⟩⟩ (fun c_1 => ?_) (fun c_1 => ?_)
    · refine V_iconst dX2_dividesOne_29 ?_
      show V K sX2_dividesOne 0 0 (fm (cO en c κ)) _ [.int (zI (bz false))] 30
      refine V_zret hR rfl (Nat.le_of_ble_eq_true rfl) (Nat.le_of_ble_eq_true rfl) dX2_dividesOne_30 ?_
      exact ⟨dcdF (by
        rintro ⟨q, h1, h2, h3⟩
        exact hn q h1.1 (by omega) h3 h2), rfl⟩
    · refine V_aload_n dX2_dividesOne_11 rfl ?_
      refine VO_getf (C0 := RX2) (T := TX2) (N := 7) (ci := 2) (fs := dfF c κ) 12 3 iwX2 (by decide) w147 (Or.inl rfl) rfl (at_df) rfl dX2_dividesOne_12 ?_
      refine V_iload_n dX2_dividesOne_15 rfl ?_
      refine VO_zald 16 at_df_inLine ⟨by omega, by omega⟩ (by decide) dX2_dividesOne_16 ?_
      refine V_eqT (y := zI (bz (dcd (Q t)))) (congrArg zI (hb t (by omega) (by omega))) ?_
      refine V_ifc_eq (tgt := 22) dX2_dividesOne_17 (by decide) (fun c_2 => ?_) (fun c_2 => ?_)
      · refine V_iload_n dX2_dividesOne_22 rfl ?_
        refine V_iload_n dX2_dividesOne_23 rfl ?_
        refine V_iadd dX2_dividesOne_24 ?_
        refine V_istore_n (L' := [some (.ref (c 12)), some (.int (zI m)), some (.int (zI (t + m)))]) dX2_dividesOne_25 (by decide) rfl ?_
        refine V_goto (tgt := 2) dX2_dividesOne_26 (by decide) ?_
        refine ih_2 _ (by omega) (t + m) rfl ?_ ?_ ?_
        · omega
        · simp [Int.add_emod, hz]
        · exact fun q a b d => by
            by_cases e : q < t
            · exact hn q a e d
            · rw [mod_gap hm.1 d hz (by omega) b]; exact c_2
      · refine V_iconst dX2_dividesOne_20 ?_
        show V K sX2_dividesOne 0 0 (fm (cO en c κ)) _ [.int (zI (bz true))] 21
        refine V_zret hR rfl (Nat.le_of_ble_eq_true rfl) (Nat.le_of_ble_eq_true rfl) dX2_dividesOne_21 ?_
        exact ⟨dcdT ⟨t, ⟨by omega, by omega⟩, c_2, hz⟩, rfl⟩
  have seg_2 : ∀ (t : Int), (m ≤ t ∧ t ≤ 128) → (t % m = 0) → (∀ q, 0 < q → q < t → q % m = 0 → ¬ Q q) → V K sX2_dividesOne 0 0 (fm (cO en c κ)) [some (.ref (c 12)), some (.int (zI m)), some (.int (zI t))] [] 2 := fun t ht hz hn => loop_2 _ t rfl ht hz hn
  refine V_iload_n dX2_dividesOne_0 rfl ?_
  refine V_istore_n (L' := [some (.ref (c 12)), some (.int (zI m)), some (.int (zI m))]) dX2_dividesOne_1 (by decide) rfl ?_
  refine seg_2 m ?_ ?_ ?_
  · omega
  · exact Int.emod_self
  · exact fun q a b d => by rw [Int.emod_eq_of_lt (by omega) b] at d; omega
set_option maxRecDepth 100000 in
set_option maxHeartbeats 4000000 in
theorem k_w2_leastModulusDividingNone (en : Nat → Nat) (c : Nat → Nat) (κ : St) (P : St) (D : Int → Int → Prop) (hp : MI P ∧ CI P κ ∧ DS P D κ ∧ VB P D) : MC (EN en) yX2_leastModulusDividingNone sX2_leastModulusDividingNone [.ref (c 12)] (fm (cO en c κ)) (fun v w => ∃ (x : Int) (κ2 : St), v = some (.int (zI x)) ∧ w = fm (cO en c κ2) ∧ (CI P κ2) ∧ (fr [63] κ κ2) ∧ (IsLst (rD P D) 1 x ∧ x ≤ 64)) := by
  refine MC.of (EN.stb en) [some (.ref (c 12)), none] 1 rfl rfl rfl (by simp [Value.category]) (Nat.le_of_ble_eq_true rfl) (fun K hK hR => ?_)
  obtain ⟨hM, hC, hp⟩ := hp
  have hN4 := hM.2.2.1
  obtain ⟨hD, hV⟩ := hp
  obtain ⟨κ0, hκ0⟩ : ∃ κ0 : St, κ0 = κ := ⟨κ, rfl⟩
  have hF : fr [63] κ0 κ := by rw [hκ0]; exact fr.rf _ _
  have hm2 := hM.2.1
  have loop_69 : ∀ (n0 : Nat) (κ : St) (m : Int), (64 - m).toNat = n0 → (CI P κ) → (fr [63] κ0 κ) → (DS P D κ) → (1 ≤ m ∧ m ≤ 64) → (∀ q, 0 ≤ q → q < 64 → κ 63 q = bz (dcd (VQ P D q))) → (∀ j, 1 ≤ j → j < m → ¬ rD P D j) → V K sX2_leastModulusDividingNone 0 0 (fm (cO en c κ)) [some (.ref (c 12)), some (.int (zI m))] [] 69 := by
    intro n0
    induction n0 using Nat.strongRecOn with
    | _ n0 ih_69 =>
    intro κ m hm_69 hC hF hD hm hQ hJ
    refine V_iload_n dX2_leastModulusDividingNone_69 rfl ?_
    refine V_aload_n dX2_leastModulusDividingNone_70 rfl ?_
    refine VO_getf (C0 := RX2) (T := TX2) (N := 7) (ci := 2) (fs := dfF c κ) 12 3 iwX2 (by decide) w147 (Or.inl rfl) rfl (at_df) rfl dX2_leastModulusDividingNone_71 ?_
    refine VO_alen 16 (at_df_inLine) (fun _ => rfl) dX2_leastModulusDividingNone_74 ?_
    show V K sX2_leastModulusDividingNone 0 0 (fm (cO en c κ)) [some (.ref (c 12)), some (.int (zI m))] [.int (zI 64), .int (zI m)] 75
    refine V_icmp_ge (tgt := 92) dX2_leastModulusDividingNone_75 (by decide) ⟨⟨by omega, by omega⟩, ⟨by omega, by omega⟩⟩ (fun c_1 => ?_) (fun c_1 => ?_)
    · refine V_iload_n dX2_leastModulusDividingNone_92 rfl ?_
      refine V_iret hR rfl (Nat.le_of_ble_eq_true rfl) (Nat.le_of_ble_eq_true rfl) dX2_leastModulusDividingNone_93 ?_
      exact ⟨m, κ, rfl, rfl, hC, by rw [← hκ0]; exact hF, ⟨hm.1, by rw [show m = 64 by omega]; exact rD_64 hV, hJ⟩, hm.2⟩
    · refine V_aload_n dX2_leastModulusDividingNone_78 rfl ?_
      refine V_iload_n dX2_leastModulusDividingNone_79 rfl ?_
      refine VO_callVF (As := [.int (zI m)]) (b := c 12) (i := 12) (ci := 2) (fs := dfF c κ) (T := TX2) (N := 7) (at_df) rfl hK (k_w2_dividesOne en c κ m P (VQ P D) ⟨hM, hC, ⟨hm.1, by omega⟩, hQ⟩) mokX2_dividesOne w970 w972 wps1_7 ⟨Nat.le_of_ble_eq_true rfl, Nat.le_of_ble_eq_true rfl⟩ rfl (Nat.le_of_ble_eq_true rfl) ⟨Nat.le_of_ble_eq_true rfl, Nat.le_of_ble_eq_true rfl⟩ dX2_leastModulusDividingNone_80 (fun v w p_2 => ?_)
      obtain ⟨rfl, rfl⟩ := p_2
      show V K sX2_leastModulusDividingNone 0 0 (fm (cO en c κ)) [some (.ref (c 12)), some (.int (zI m))] [.int (zI (bz (dcd (∃ q, (0 < q ∧ q < 64) ∧ (VQ P D) q ∧ q % m = 0))))] 83
      refine V_ifc_eq (tgt := 92) dX2_leastModulusDividingNone_83 (by decide) (fun c_3 => ?_) (fun c_3 => ?_)
      · refine V_iload_n dX2_leastModulusDividingNone_92 rfl ?_
        refine V_iret hR rfl (Nat.le_of_ble_eq_true rfl) (Nat.le_of_ble_eq_true rfl) dX2_leastModulusDividingNone_93 ?_
        exact ⟨m, κ, rfl, rfl, hC, by rw [← hκ0]; exact hF, ⟨hm.1, Classical.byContradiction (fun z => c_3 ((VQ.iff hm.1 hV).mpr z)), hJ⟩, hm.2⟩
      · refine V_iinc (L' := [some (.ref (c 12)), some (.int (zI (m + 1)))]) dX2_leastModulusDividingNone_86 (by decide) rfl rfl ?_
        refine V_goto (tgt := 69) dX2_leastModulusDividingNone_89 (by decide) ?_
        refine ih_69 _ (by omega) κ (m + 1) rfl ?_ ?_ ?_ ?_ ?_ ?_
        · exact hC
        · exact hF
        · exact hD
        · omega
        · omega
        · exact fun j a b => by
            by_cases e : j = m
            · rw [e]; exact (VQ.iff hm.1 hV).mp c_3
            · exact hJ j a (by omega)
  have seg_69 : ∀ (κ : St) (m : Int), (CI P κ) → (fr [63] κ0 κ) → (DS P D κ) → (1 ≤ m ∧ m ≤ 64) → (∀ q, 0 ≤ q → q < 64 → κ 63 q = bz (dcd (VQ P D q))) → (∀ j, 1 ≤ j → j < m → ¬ rD P D j) → V K sX2_leastModulusDividingNone 0 0 (fm (cO en c κ)) [some (.ref (c 12)), some (.int (zI m))] [] 69 := fun κ m hC hF hD hm hQ hJ => loop_69 _ κ m rfl hC hF hD hm hQ hJ
  have loop_26 : ∀ (n0 : Nat) (κ : St) (i : Int), (225 - i).toNat = n0 → (CI P κ) → (fr [63] κ0 κ) → (DS P D κ) → (0 ≤ i ∧ i ≤ κ 64 0) → (∀ q, 0 ≤ q → q < 64 → κ 63 q = bz (dcd (EQ P κ i q))) → V K sX2_leastModulusDividingNone 0 0 (fm (cO en c κ)) [some (.ref (c 12)), some (.int (zI i))] [] 26 := by
    intro n0
    induction n0 using Nat.strongRecOn with
    | _ n0 ih_26 =>
    intro κ i hm_26 hC hF hD hi hQ
    refine V_iload_n dX2_leastModulusDividingNone_26 rfl ?_
    have hcn := hD.cnt
    refine V_aload_n dX2_leastModulusDividingNone_27 rfl ?_
    refine VO_getf (C0 := RX2) (T := TX2) (N := 7) (ci := 2) (fs := dfF c κ) 12 4 iwX2 (by decide) w148 (Or.inl rfl) rfl (at_df) rfl dX2_leastModulusDividingNone_28 ?_
    refine V_icmp_ge (tgt := 67) dX2_leastModulusDividingNone_31 (by decide) ⟨⟨by omega, by omega⟩, ⟨by omega, by omega⟩⟩ (fun c_4 => ?_) (fun c_4 => ?_)
    · refine V_iconst dX2_leastModulusDividingNone_67 ?_
      refine V_istore_n (L' := [some (.ref (c 12)), some (.int (zI 1))]) dX2_leastModulusDividingNone_68 (by decide) rfl ?_
      refine seg_69 κ 1 ?_ ?_ ?_ ?_ ?_ ?_
      · exact hC
      · exact hF
      · exact hD
      · omega
      · exact bd_keep hQ (fun q => by rw [show i = κ 64 0 by omega]; exact hD.EQ.symm)
      · exact fun j a b => by omega
    · have hcn := hD.cnt
      have hDk := hD.2.2.2.1 i hi.1 (by omega)
      have hv := hV _ _ hDk
      have hab : 0 ≤ absI (κ 61 i * P 0 1 + κ 62 i) ∧ absI (κ 61 i * P 0 1 + κ 62 i) < 64 := by unfold absI; split <;> omega
      refine V_aload_n dX2_leastModulusDividingNone_34 rfl ?_
      refine VO_getf (C0 := RX2) (T := TX2) (N := 7) (ci := 2) (fs := dfF c κ) 12 3 iwX2 (by decide) w147 (Or.inl rfl) rfl (at_df) rfl dX2_leastModulusDividingNone_35 ?_
      refine V_aload_n dX2_leastModulusDividingNone_38 rfl ?_
      refine VO_getf (C0 := RX2) (T := TX2) (N := 7) (ci := 2) (fs := dfF c κ) 12 1 iwX2 (by decide) w145 (Or.inl rfl) rfl (at_df) rfl dX2_leastModulusDividingNone_39 ?_
      refine V_iload_n dX2_leastModulusDividingNone_42 rfl ?_
      refine VO_iald 14 at_df_rowDifference ⟨by omega, by omega⟩ (by decide) dX2_leastModulusDividingNone_43 ?_
      refine V_aload_n dX2_leastModulusDividingNone_44 rfl ?_
      refine VO_getf (C0 := RX2) (T := TX2) (N := 7) (ci := 2) (fs := dfF c κ) 12 6 iwX2 (by decide) w150 (Or.inl rfl) rfl (at_df) rfl dX2_leastModulusDividingNone_45 ?_
      refine V_eqT (y := zI (P 0 1)) (congrArg zI hD.1.2) ?_
      refine V_imul dX2_leastModulusDividingNone_48 ?_
      refine V_aload_n dX2_leastModulusDividingNone_49 rfl ?_
      refine VO_getf (C0 := RX2) (T := TX2) (N := 7) (ci := 2) (fs := dfF c κ) 12 2 iwX2 (by decide) w146 (Or.inl rfl) rfl (at_df) rfl dX2_leastModulusDividingNone_50 ?_
      refine V_iload_n dX2_leastModulusDividingNone_53 rfl ?_
      refine VO_iald 15 at_df_columnDifference ⟨by omega, by omega⟩ (by decide) dX2_leastModulusDividingNone_54 ?_
      refine V_iadd dX2_leastModulusDividingNone_55 ?_
      refine V_callSE (As := [.int (zI (((κ 61 i) * (P 0 1)) + (κ 62 i)))]) hK (k_abs en (((κ 61 i) * (P 0 1)) + (κ 62 i)) (by refine ⟨?_, ?_⟩ <;> first | assumption | (refine ⟨?_, ?_⟩ <;> first | assumption | omega) | omega)) mokJ9_abs_0f7a4 w969 w294 ⟨Nat.le_of_ble_eq_true rfl, Nat.le_of_ble_eq_true rfl⟩ rfl (Nat.le_of_ble_eq_true rfl) ⟨Nat.le_of_ble_eq_true rfl, Nat.le_of_ble_eq_true rfl⟩ dX2_leastModulusDividingNone_56 (fun v w p_5 => ?_)
      obtain ⟨rfl, rfl⟩ := p_5
      show V K sX2_leastModulusDividingNone 0 0 (fm (cO en c κ)) [some (.ref (c 12)), some (.int (zI i))] [.int (zI (absI (((κ 61 i) * (P 0 1)) + (κ 62 i)))), .ref (c 16)] 59
      refine V_iconst dX2_leastModulusDividingNone_59 ?_
      refine VO_zast 16 at_df_inLine ⟨by omega, by omega⟩ (by decide) (by omega) dX2_leastModulusDividingNone_60 (st_df_inLine (absI (((κ 61 i) * (P 0 1)) + (κ 62 i))) 1) ?_
      refine V_iinc (L' := [some (.ref (c 12)), some (.int (zI (i + 1)))]) dX2_leastModulusDividingNone_61 (by decide) rfl rfl ?_
      refine V_goto (tgt := 26) dX2_leastModulusDividingNone_64 (by decide) ?_
      refine ih_26 _ (by omega) (up κ 63 (absI (((κ 61 i) * (P 0 1)) + (κ 62 i))) 1) (i + 1) rfl ?_ ?_ ?_ ?_ ?_
      · exact ((hC).up (by decide))
      · exact ((hF).upd (by decide))
      · exact DS.fr63 hD ((fr.rf _ _).upd (by decide))
      · exact ⟨by omega, by show i + 1 ≤ κ 64 0; omega⟩
      · exact bd_up hQ (fun q => EQ.step hi.1)
  have seg_26 : ∀ (κ : St) (i : Int), (CI P κ) → (fr [63] κ0 κ) → (DS P D κ) → (0 ≤ i ∧ i ≤ κ 64 0) → (∀ q, 0 ≤ q → q < 64 → κ 63 q = bz (dcd (EQ P κ i q))) → V K sX2_leastModulusDividingNone 0 0 (fm (cO en c κ)) [some (.ref (c 12)), some (.int (zI i))] [] 26 := fun κ i hC hF hD hi hQ => loop_26 _ κ i rfl hC hF hD hi hQ
  have loop_2 : ∀ (n0 : Nat) (κ : St) (i : Int), (64 - i).toNat = n0 → (CI P κ) → (fr [63] κ0 κ) → (DS P D κ) → (0 ≤ i ∧ i ≤ 64) → (∀ q, 0 ≤ q → q < i → κ 63 q = 0) → V K sX2_leastModulusDividingNone 0 0 (fm (cO en c κ)) [some (.ref (c 12)), some (.int (zI i))] [] 2 := by
    intro n0
    induction n0 using Nat.strongRecOn with
    | _ n0 ih_2 =>
    intro κ i hm_2 hC hF hD hi hZ
    refine V_iload_n dX2_leastModulusDividingNone_2 rfl ?_
    refine V_aload_n dX2_leastModulusDividingNone_3 rfl ?_
    refine VO_getf (C0 := RX2) (T := TX2) (N := 7) (ci := 2) (fs := dfF c κ) 12 3 iwX2 (by decide) w147 (Or.inl rfl) rfl (at_df) rfl dX2_leastModulusDividingNone_4 ?_
    refine VO_alen 16 (at_df_inLine) (fun _ => rfl) dX2_leastModulusDividingNone_7 ?_
    show V K sX2_leastModulusDividingNone 0 0 (fm (cO en c κ)) [some (.ref (c 12)), some (.int (zI i))] [.int (zI 64), .int (zI i)] 8
    refine V_icmp_ge (tgt := 24) dX2_leastModulusDividingNone_8 (by decide) ⟨⟨by omega, by omega⟩, ⟨by omega, by omega⟩⟩ (fun c_6 => ?_) (fun c_6 => ?_)
    · refine V_iconst dX2_leastModulusDividingNone_24 ?_
      refine V_istore_n (L' := [some (.ref (c 12)), some (.int (zI 0))]) dX2_leastModulusDividingNone_25 (by decide) rfl ?_
      refine seg_26 κ 0 ?_ ?_ ?_ ?_ ?_
      · exact hC
      · exact hF
      · exact hD
      · exact ⟨by omega, hD.cnt.1⟩
      · exact fun q a b => by rw [hZ q a (by omega), dcd_f.mpr EQ.zero]; rfl
    · refine V_aload_n dX2_leastModulusDividingNone_11 rfl ?_
      refine VO_getf (C0 := RX2) (T := TX2) (N := 7) (ci := 2) (fs := dfF c κ) 12 3 iwX2 (by decide) w147 (Or.inl rfl) rfl (at_df) rfl dX2_leastModulusDividingNone_12 ?_
      refine V_iload_n dX2_leastModulusDividingNone_15 rfl ?_
      refine V_iconst dX2_leastModulusDividingNone_16 ?_
      refine VO_zast 16 at_df_inLine ⟨by omega, by omega⟩ (by decide) (by omega) dX2_leastModulusDividingNone_17 (st_df_inLine i 0) ?_
      refine V_iinc (L' := [some (.ref (c 12)), some (.int (zI (i + 1)))]) dX2_leastModulusDividingNone_18 (by decide) rfl rfl ?_
      refine V_goto (tgt := 2) dX2_leastModulusDividingNone_21 (by decide) ?_
      refine ih_2 _ (by omega) (up κ 63 i 0) (i + 1) rfl ?_ ?_ ?_ ?_ ?_
      · exact ((hC).up (by decide))
      · exact ((hF).upd (by decide))
      · exact DS.fr63 hD ((fr.rf _ _).upd (by decide))
      · omega
      · exact fun q a b => by
          show fup (κ 63) i 0 q = 0
          by_cases e : q = i
          · rw [e, fup_eq]
          · rw [fup_ne e]; exact hZ q a (by omega)
  have seg_2 : ∀ (κ : St) (i : Int), (CI P κ) → (fr [63] κ0 κ) → (DS P D κ) → (0 ≤ i ∧ i ≤ 64) → (∀ q, 0 ≤ q → q < i → κ 63 q = 0) → V K sX2_leastModulusDividingNone 0 0 (fm (cO en c κ)) [some (.ref (c 12)), some (.int (zI i))] [] 2 := fun κ i hC hF hD hi hZ => loop_2 _ κ i rfl hC hF hD hi hZ
  refine V_iconst dX2_leastModulusDividingNone_0 ?_
  refine V_istore_n (L' := [some (.ref (c 12)), some (.int (zI 0))]) dX2_leastModulusDividingNone_1 (by decide) rfl ?_
  refine seg_2 κ 0 ?_ ?_ ?_ ?_ ?_
  · exact hC
  · exact hF
  · exact hD
  · omega
  · exact fun q a b => absurd b (by omega)

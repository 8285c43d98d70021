set_option maxRecDepth 100000 in
set_option maxHeartbeats 4000000 in
theorem c_time {E : EV} (hE : Stb E) (a : Nat → Nat) (σ : St) (cell : Int) (byRow : Int) (byColumn : Int) (P : St) (hp : MI P ∧ PR P σ ∧ 0 ≤ cell ∧ cell ≤ 255) : MC E yX11_time sX11_time [.ref (a 0), .int (zI cell), .int (zI byRow), .int (zI byColumn)] (mW a σ) (fun v w => v = some (.int (zI (tmc P byRow byColumn cell))) ∧ w = mW a σ) := by
  refine MC.of hE [some (.ref (a 0)), some (.int (zI cell)), some (.int (zI byRow)), some (.int (zI byColumn))] 0 rfl rfl rfl (by simp [Value.category]) (Nat.le_of_ble_eq_true rfl) (fun K hK hR => ?_)
  obtain ⟨hM, hP, hp⟩ := hp
  have e0 := hP 0 (by decide) (by decide)
  have f0 : ∀ i, σ 0 i = P 0 i := fun i => by rw [e0]
  have mR := hM.1
  have mC := hM.2.1
  have mN := hM.2.2.1
  have mp := hM.pts
  have ma := hM.als
  have gR := f0 0
  have gC := f0 1
  have gN := f0 2
  refine V_aload_n dX11_time_0 rfl ?_
  refine V_iload_n dX11_time_1 rfl ?_
  refine V_callVF (As := [.int (zI cell)]) (b := a 0) (hb := (show (mW a σ)[0]? = some (a 0, .inr (10, mF a σ)) from rfl)) (hc := (show vwCl[10]? = some (RX11, TX11, 30) from rfl)) hK (c_row hE a σ cell P ⟨hM, hP, by refine ⟨?_, ?_⟩ <;> (try refine ⟨?_, ?_⟩) <;> omega⟩) mokX11_row w1219 w1221 wps1_15 ⟨Nat.le_of_ble_eq_true rfl, Nat.le_of_ble_eq_true rfl⟩ rfl (Nat.le_of_ble_eq_true rfl) ⟨Nat.le_refl _, Nat.le_refl _⟩ dX11_time_2 (fun v w p_1 => ?_)
  obtain ⟨rfl, rfl⟩ := p_1
  show V K sX11_time 0 0 (mW a σ) _ [.int (zI (cell % 64 / P 0 1))] 5
  refine V_iload_n dX11_time_5 rfl ?_
  refine V_imul dX11_time_6 ?_
  refine V_aload_n dX11_time_7 rfl ?_
  refine V_iload_n dX11_time_8 rfl ?_
  refine V_callVF (As := [.int (zI cell)]) (b := a 0) (hb := (show (mW a σ)[0]? = some (a 0, .inr (10, mF a σ)) from rfl)) (hc := (show vwCl[10]? = some (RX11, TX11, 30) from rfl)) hK (c_column hE a σ cell P ⟨hM, hP, by refine ⟨?_, ?_⟩ <;> (try refine ⟨?_, ?_⟩) <;> omega⟩) mokX11_column w1223 w1225 wps2_0 ⟨Nat.le_of_ble_eq_true rfl, Nat.le_of_ble_eq_true rfl⟩ rfl (Nat.le_of_ble_eq_true rfl) ⟨Nat.le_refl _, Nat.le_refl _⟩ dX11_time_9 (fun v w p_2 => ?_)
  obtain ⟨rfl, rfl⟩ := p_2
  show V K sX11_time 0 0 (mW a σ) _ [.int (zI (cell % 64 % P 0 1)), .int (zI ((cell % 64 / P 0 1) * byRow))] 12
  refine V_iload_n dX11_time_12 rfl ?_
  refine V_imul dX11_time_13 ?_
  refine V_iadd dX11_time_14 ?_
  refine V_aload_n dX11_time_15 rfl ?_
  refine mg_offset rfl dX11_time_16 ?_
  refine V_iload_n dX11_time_19 rfl ?_
  refine V_bipush dX11_time_20 (by decide) ?_
  refine V_idiv dX11_time_22 ⟨⟨by omega, by omega⟩, ⟨by omega, by omega⟩, by omega, by omega⟩ ?_
  refine ml_offset ⟨by omega, by omega⟩ dX11_time_23 ?_
  refine V_iadd dX11_time_24 ?_
  refine V_iret hR rfl (Nat.le_refl _) (Nat.le_refl _) dX11_time_25 ?_
  exact ⟨ziE (by rw [tmc, hP 10 (by decide) (by decide)]), rfl⟩
set_option maxRecDepth 100000 in
set_option maxHeartbeats 4000000 in
theorem c_deals {E : EV} (hE : Stb E) (a : Nat → Nat) (σ : St) (byRow : Int) (byColumn : Int) (P : St) (hp : MI P ∧ PR P σ ∧ (0 ≤ byRow ∧ byRow ≤ 9) ∧ (0 ≤ byColumn ∧ byColumn ≤ 9)) : MC E yX11_deals sX11_deals [.ref (a 0), .int (zI byRow), .int (zI byColumn)] (mW a σ) (fun v w => ∃ σ2 : St, v = none ∧ w = mW a σ2 ∧ (fr [16, 17, 18] σ σ2) ∧ (Dealt P byRow byColumn σ2)) := by
  refine MC.of hE [some (.ref (a 0)), some (.int (zI byRow)), some (.int (zI byColumn)), none, none, none, none] 4 rfl rfl rfl (by simp [Value.category]) (Nat.le_of_ble_eq_true rfl) (fun K hK hR => ?_)
  obtain ⟨hM, hP, hp⟩ := hp
  have e0 := hP 0 (by decide) (by decide)
  have f0 : ∀ i, σ 0 i = P 0 i := fun i => by rw [e0]
  have mR := hM.1
  have mC := hM.2.1
  have mN := hM.2.2.1
  have mp := hM.pts
  have ma := hM.als
  have gR := f0 0
  have gC := f0 1
  have gN := f0 2
  obtain ⟨hb, hw⟩ := hp
  have loop_118 : ∀ (n0 : Nat) (k : Int) (σ1 : St), (al P - k).toNat = n0 → (0 ≤ k ∧ k ≤ al P) → (fr [16, 17, 18] σ σ1) → (∀ t, 0 ≤ t → t ≤ 160 → σ1 16 t = ct (fun j => decide (tm P byRow byColumn j < t)) (al P) + ct (fun j => decide (tm P byRow byColumn j = t)) k) → (∀ j, 0 ≤ j → j < k → σ1 17 (cid P j) = bt P byRow byColumn j) → (∀ j, 0 ≤ j → j < k → σ1 18 (bt P byRow byColumn j) = cid P j) → V K sX11_deals 0 0 (mW a σ1) [some (.ref (a 0)), some (.int (zI byRow)), some (.int (zI byColumn)), some (.int (zI (pt P))), some (.int (zI k)), none, none] [] 118 := by
    intro n0
    induction n0 using Nat.strongRecOn with
    | _ n0 ih_118 =>
    intro k σ1 hm_118 hk hf h1 h2 h3
    have hP1 : PR P σ1 := hP.fr hf (by decide)
    have e1 := hP1 0 (by decide) (by decide)
    have f1 : ∀ i, σ1 0 i = P 0 i := fun i => by rw [e1]
    have g1R := f1 0
    have g1C := f1 1
    have g1N := f1 2
    refine V_iload dX11_deals_118 rfl ?_
    refine V_aload_n dX11_deals_120 rfl ?_
    refine V_callVF (As := []) (b := a 0) (hb := (show (mW a σ1)[0]? = some (a 0, .inr (10, mF a σ1)) from rfl)) (hc := (show vwCl[10]? = some (RX11, TX11, 30) from rfl)) hK (c_all hE a σ1 P ⟨hM, hP1⟩) mokX11_all w1211 w1213 wps1_13 ⟨Nat.le_of_ble_eq_true rfl, Nat.le_of_ble_eq_true rfl⟩ rfl (Nat.le_of_ble_eq_true rfl) ⟨Nat.le_refl _, Nat.le_refl _⟩ dX11_deals_121 (fun v w p_1 => ?_)
    obtain ⟨rfl, rfl⟩ := p_1
    show V K sX11_deals 0 0 (mW a σ1) _ [.int (zI (al P)), .int (zI k)] 124
    refine V_icmp_ge (tgt := 196) dX11_deals_124 (by decide) ⟨⟨by omega, by omega⟩, ⟨by omega, by omega⟩⟩ (fun c_2 => ?_) (fun c_2 => ?_)
    · refine V_vret hR rfl (Nat.le_refl _) (Nat.le_refl _) dX11_deals_196 ?_
      exact ⟨σ1, rfl, rfl, hf, fun j a b => h2 j a (by omega), fun j a b => h3 j a (by omega)⟩
    · have kc := cid_b hM hk.1 (show k < al P by omega)
      have kt := tm_b hM hb hw hk.1 (show k < al P by omega)
      have kb := rk_b (T := tm P byRow byColumn) hk.1 (show k < al P by omega)
      have hbk : σ1 16 (tm P byRow byColumn k) = bt P byRow byColumn k := by rw [h1 _ kt.1 (by omega)]; exact rk_split hk.1 hk.2
      refine V_bipush dX11_deals_127 (by decide) ?_
      refine V_iload dX11_deals_129 rfl ?_
      refine V_iload_n dX11_deals_131 rfl ?_
      refine V_idiv dX11_deals_132 ⟨⟨by omega, by omega⟩, ⟨by omega, by omega⟩, by omega, by omega⟩ ?_
      refine V_imul dX11_deals_133 ?_
      refine V_iload dX11_deals_134 rfl ?_
      refine V_iload_n dX11_deals_136 rfl ?_
      refine V_iremN dX11_deals_137 ⟨⟨by omega, by omega⟩, ⟨by omega, by omega⟩, by omega, by omega⟩ ?_
      refine V_iadd dX11_deals_138 ?_
      refine V_eqT (y := zI (cid P k)) (rfl) ?_
      refine V_istore (L' := [some (.ref (a 0)), some (.int (zI byRow)), some (.int (zI byColumn)), some (.int (zI (pt P))), some (.int (zI k)), some (.int (zI (cid P k))), none]) dX11_deals_139 (by decide) rfl ?_
      refine V_aload_n dX11_deals_141 rfl ?_
      refine V_iload dX11_deals_142 rfl ?_
      refine V_iload_n dX11_deals_144 rfl ?_
      refine V_iload_n dX11_deals_145 rfl ?_
      refine V_callVF (As := [.int (zI (cid P k)), .int (zI byRow), .int (zI byColumn)]) (b := a 0) (hb := (show (mW a σ1)[0]? = some (a 0, .inr (10, mF a σ1)) from rfl)) (hc := (show vwCl[10]? = some (RX11, TX11, 30) from rfl)) hK (c_time hE a σ1 (cid P k) byRow byColumn P ⟨hM, hP1, by refine ⟨?_, ?_⟩ <;> (try refine ⟨?_, ?_⟩) <;> omega⟩) mokX11_time w1215 w1217 wps1_14 ⟨Nat.le_of_ble_eq_true rfl, Nat.le_of_ble_eq_true rfl⟩ rfl (Nat.le_of_ble_eq_true rfl) ⟨Nat.le_refl _, Nat.le_refl _⟩ dX11_deals_146 (fun v w p_3 => ?_)
      obtain ⟨rfl, rfl⟩ := p_3
      show V K sX11_deals 0 0 (mW a σ1) _ [.int (zI (tmc P byRow byColumn (cid P k)))] 149
      refine V_eqT (y := zI (tm P byRow byColumn k)) (rfl) ?_
      refine V_istore (L' := [some (.ref (a 0)), some (.int (zI byRow)), some (.int (zI byColumn)), some (.int (zI (pt P))), some (.int (zI k)), some (.int (zI (cid P k))), some (.int (zI (tm P byRow byColumn k)))]) dX11_deals_149 (by decide) rfl ?_
      refine V_aload_n dX11_deals_151 rfl ?_
      refine mg_step rfl dX11_deals_152 ?_
      refine V_iload dX11_deals_155 rfl ?_
      refine V_aload_n dX11_deals_157 rfl ?_
      refine mg_many rfl dX11_deals_158 ?_
      refine V_iload dX11_deals_161 rfl ?_
      refine ml_many ⟨by omega, by omega⟩ dX11_deals_163 ?_
      refine V_eqT (y := zI (bt P byRow byColumn k)) (by rw [hbk]) ?_
      refine ms_step ⟨by omega, by omega⟩ dX11_deals_164 ?_
      have kb2 : 0 ≤ bt P byRow byColumn k ∧ bt P byRow byColumn k < al P := kb
      refine V_aload_n dX11_deals_165 rfl ?_
      refine mg_cellAt rfl dX11_deals_166 ?_
      refine V_aload_n dX11_deals_169 rfl ?_
      refine mg_many rfl dX11_deals_170 ?_
      refine V_iload dX11_deals_173 rfl ?_
      refine ml_many ⟨by omega, by omega⟩ dX11_deals_175 ?_
      refine V_eqT (y := zI (bt P byRow byColumn k)) (by rw [← hbk]; rfl) ?_
      refine V_iload dX11_deals_176 rfl ?_
      refine ms_cellAt ⟨by omega, by omega⟩ dX11_deals_178 ?_
      refine V_aload_n dX11_deals_179 rfl ?_
      refine mg_many rfl dX11_deals_180 ?_
      refine V_iload dX11_deals_183 rfl ?_
      refine V_dup2 dX11_deals_185 rfl rfl ?_
      refine ml_many ⟨by omega, by omega⟩ dX11_deals_186 ?_
      refine V_iconst dX11_deals_187 ?_
      refine V_iadd dX11_deals_188 ?_
      refine V_eqT (y := zI (bt P byRow byColumn k + 1)) (by rw [← hbk]; rfl) ?_
      refine ms_many ⟨by omega, by omega⟩ dX11_deals_189 ?_
      refine V_iinc (L' := [some (.ref (a 0)), some (.int (zI byRow)), some (.int (zI byColumn)), some (.int (zI (pt P))), some (.int (zI (k + 1))), some (.int (zI (cid P k))), some (.int (zI (tm P byRow byColumn k)))]) dX11_deals_190 (by decide) rfl rfl ?_
      refine V_goto (tgt := 118) dX11_deals_193 (by decide) ?_
      refine V_mask (L' := [some (.ref (a 0)), some (.int (zI byRow)), some (.int (zI byColumn)), some (.int (zI (pt P))), some (.int (zI (k + 1))), none, none]) [true, true, true, true, true, false, false] rfl ?_
      refine ih_118 _ (by omega) (k + 1) (up (up (up σ1 17 (cid P k) (bt P byRow byColumn k)) 18 (bt P byRow byColumn k) (cid P k)) 16 (tm P byRow byColumn k) (bt P byRow byColumn k + 1)) rfl ?_ ?_ ?_ ?_ ?_
      · omega
      · exact ((hf.upd (by decide)).upd (by decide)).upd (by decide)
      · intro u a b
        rw [ct_s _ hk.1, up_eq]
        show fup (σ1 16) _ _ u = _
        by_cases e : u = tm P byRow byColumn k
        · rw [e, fup_eq, ← hbk, h1 _ kt.1 (by omega)]; simp [bz]; omega
        · rw [fup_ne e, h1 u a b, show decide (tm P byRow byColumn k = u) = false by simp; omega]; simp [bz]
      · intro j a b
        show fup (σ1 17) _ _ (cid P j) = _
        by_cases e : j = k
        · rw [e, fup_eq]
        · rw [fup_ne (fun z => e (cid_inj hM a (by omega) hk.1 (by omega) z))]; exact h2 j a (by omega)
      · intro j a b
        show fup (σ1 18) _ _ (bt P byRow byColumn j) = _
        by_cases e : j = k
        · rw [e, fup_eq]
        · have z2 : bt P byRow byColumn j ≠ bt P byRow byColumn k := fun z => e (rk_inj (T := tm P byRow byColumn) (n := al P) a (by omega) hk.1 (by omega) z)
          rw [fup_ne z2]; exact h3 j a (by omega)
  have seg_118 : ∀ (k : Int) (σ1 : St), (0 ≤ k ∧ k ≤ al P) → (fr [16, 17, 18] σ σ1) → (∀ t, 0 ≤ t → t ≤ 160 → σ1 16 t = ct (fun j => decide (tm P byRow byColumn j < t)) (al P) + ct (fun j => decide (tm P byRow byColumn j = t)) k) → (∀ j, 0 ≤ j → j < k → σ1 17 (cid P j) = bt P byRow byColumn j) → (∀ j, 0 ≤ j → j < k → σ1 18 (bt P byRow byColumn j) = cid P j) → V K sX11_deals 0 0 (mW a σ1) [some (.ref (a 0)), some (.int (zI byRow)), some (.int (zI byColumn)), some (.int (zI (pt P))), some (.int (zI k)), none, none] [] 118 := fun k σ1 hk hf h1 h2 h3 => loop_118 _ k σ1 rfl hk hf h1 h2 h3
  have loop_82 : ∀ (n0 : Nat) (t : Int) (σ1 : St), (161 - t).toNat = n0 → (1 ≤ t ∧ t ≤ 161) → (fr [16, 17, 18] σ σ1) → (∀ u, 0 ≤ u → u < t → σ1 16 u = ct (fun j => decide (tm P byRow byColumn j < u)) (al P)) → (∀ u, t ≤ u → u ≤ 160 → σ1 16 u = ct (fun j => decide (tm P byRow byColumn j + 1 = u)) (al P)) → V K sX11_deals 0 0 (mW a σ1) [some (.ref (a 0)), some (.int (zI byRow)), some (.int (zI byColumn)), some (.int (zI (pt P))), some (.int (zI t)), none, none] [] 82 := by
    intro n0
    induction n0 using Nat.strongRecOn with
    | _ n0 ih_82 =>
    intro t σ1 hm_82 hi hf h1 h2
    have hP1 : PR P σ1 := hP.fr hf (by decide)
    have e1 := hP1 0 (by decide) (by decide)
    have f1 : ∀ i, σ1 0 i = P 0 i := fun i => by rw [e1]
    have g1R := f1 0
    have g1C := f1 1
    have g1N := f1 2
    refine V_iload dX11_deals_82 rfl ?_
    refine V_sipush dX11_deals_84 (by decide) ?_
    refine V_icmp_gt (tgt := 115) dX11_deals_87 (by decide) ⟨⟨by omega, by omega⟩, ⟨by omega, by omega⟩⟩ (fun c_4 => ?_) (fun c_4 => ?_)
    · refine V_iconst dX11_deals_115 ?_
      refine V_istore (L' := [some (.ref (a 0)), some (.int (zI byRow)), some (.int (zI byColumn)), some (.int (zI (pt P))), some (.int (zI 0)), none, none]) dX11_deals_116 (by decide) rfl ?_
      refine seg_118 0 σ1 ?_ ?_ ?_ ?_ ?_
      · omega
      · exact hf
      · intro u a b
        rw [h1 u a (by omega), ct_0 (fun j => decide (tm P byRow byColumn j = u)) (by omega)]; omega
      · intro j a b; omega
      · intro j a b; omega
    · refine V_aload_n dX11_deals_90 rfl ?_
      refine mg_many rfl dX11_deals_91 ?_
      refine V_iload dX11_deals_94 rfl ?_
      refine V_dup2 dX11_deals_96 rfl rfl ?_
      refine ml_many ⟨by omega, by omega⟩ dX11_deals_97 ?_
      refine V_aload_n dX11_deals_98 rfl ?_
      refine mg_many rfl dX11_deals_99 ?_
      refine V_iload dX11_deals_102 rfl ?_
      refine V_iconst dX11_deals_104 ?_
      refine V_isub dX11_deals_105 ?_
      refine ml_many ⟨by omega, by omega⟩ dX11_deals_106 ?_
      refine V_iadd dX11_deals_107 ?_
      refine ms_many ⟨by omega, by omega⟩ dX11_deals_108 ?_
      refine V_iinc (L' := [some (.ref (a 0)), some (.int (zI byRow)), some (.int (zI byColumn)), some (.int (zI (pt P))), some (.int (zI (t + 1))), none, none]) dX11_deals_109 (by decide) rfl rfl ?_
      refine V_goto (tgt := 82) dX11_deals_112 (by decide) ?_
      refine ih_82 _ (by omega) (t + 1) (up σ1 16 t ((σ1 16 t) + (σ1 16 (t - 1)))) rfl ?_ ?_ ?_ ?_
      · omega
      · exact hf.upd (by decide)
      · intro u a b
        rw [up_eq]
        by_cases e : u = t
        · rw [e, fup_eq, h2 t (by omega) (by omega), h1 (t - 1) (by omega) (by omega), ← ct_or _ ma.1 (fun j _ _ => by simp; omega)]
          exact ct_congr _ ma.1 (fun j _ _ => by rw [← Bool.decide_or]; exact decide_eq_decide.mpr (by omega))
        · rw [fup_ne e]; exact h1 u a (by omega)
      · intro u a b
        rw [up_eq, fup_ne (by omega)]; exact h2 u (by omega) b
  have seg_82 : ∀ (t : Int) (σ1 : St), (1 ≤ t ∧ t ≤ 161) → (fr [16, 17, 18] σ σ1) → (∀ u, 0 ≤ u → u < t → σ1 16 u = ct (fun j => decide (tm P byRow byColumn j < u)) (al P)) → (∀ u, t ≤ u → u ≤ 160 → σ1 16 u = ct (fun j => decide (tm P byRow byColumn j + 1 = u)) (al P)) → V K sX11_deals 0 0 (mW a σ1) [some (.ref (a 0)), some (.int (zI byRow)), some (.int (zI byColumn)), some (.int (zI (pt P))), some (.int (zI t)), none, none] [] 82 := fun t σ1 hi hf h1 h2 => loop_82 _ t σ1 rfl hi hf h1 h2
  have loop_35 : ∀ (n0 : Nat) (k : Int) (σ1 : St), (al P - k).toNat = n0 → (0 ≤ k ∧ k ≤ al P) → (fr [16, 17, 18] σ σ1) → (∀ t, 0 ≤ t → t ≤ 160 → σ1 16 t = ct (fun j => decide (tm P byRow byColumn j + 1 = t)) k) → V K sX11_deals 0 0 (mW a σ1) [some (.ref (a 0)), some (.int (zI byRow)), some (.int (zI byColumn)), some (.int (zI (pt P))), some (.int (zI k)), none, none] [] 35 := by
    intro n0
    induction n0 using Nat.strongRecOn with
    | _ n0 ih_35 =>
    intro k σ1 hm_35 hk hf hc
    have hP1 : PR P σ1 := hP.fr hf (by decide)
    have e1 := hP1 0 (by decide) (by decide)
    have f1 : ∀ i, σ1 0 i = P 0 i := fun i => by rw [e1]
    have g1R := f1 0
    have g1C := f1 1
    have g1N := f1 2
    refine V_iload dX11_deals_35 rfl ?_
    refine V_aload_n dX11_deals_37 rfl ?_
    refine V_callVF (As := []) (b := a 0) (hb := (show (mW a σ1)[0]? = some (a 0, .inr (10, mF a σ1)) from rfl)) (hc := (show vwCl[10]? = some (RX11, TX11, 30) from rfl)) hK (c_all hE a σ1 P ⟨hM, hP1⟩) mokX11_all w1211 w1213 wps1_13 ⟨Nat.le_of_ble_eq_true rfl, Nat.le_of_ble_eq_true rfl⟩ rfl (Nat.le_of_ble_eq_true rfl) ⟨Nat.le_refl _, Nat.le_refl _⟩ dX11_deals_38 (fun v w p_5 => ?_)
    obtain ⟨rfl, rfl⟩ := p_5
    show V K sX11_deals 0 0 (mW a σ1) _ [.int (zI (al P)), .int (zI k)] 41
    refine V_icmp_ge (tgt := 79) dX11_deals_41 (by decide) ⟨⟨by omega, by omega⟩, ⟨by omega, by omega⟩⟩ (fun c_6 => ?_) (fun c_6 => ?_)
    · refine V_iconst dX11_deals_79 ?_
      refine V_istore (L' := [some (.ref (a 0)), some (.int (zI byRow)), some (.int (zI byColumn)), some (.int (zI (pt P))), some (.int (zI 1)), none, none]) dX11_deals_80 (by decide) rfl ?_
      refine seg_82 1 σ1 ?_ ?_ ?_ ?_
      · omega
      · exact hf
      · intro u h1 h2
        have hu : u = 0 := by omega
        subst hu
        rw [hc 0 (by omega) (by omega), show k = al P by omega, ct_none _ ma.1 (fun j a b => by have := tm_b hM hb hw a b; simp; omega), ct_none _ ma.1 (fun j a b => by have := tm_b hM hb hw a b; simp; omega)]
      · intro u h1 h2
        rw [hc u (by omega) h2, show k = al P by omega]
    · have kc := cid_b hM hk.1 (show k < al P by omega)
      have kt := tm_b hM hb hw hk.1 (show k < al P by omega)
      refine V_aload_n dX11_deals_44 rfl ?_
      refine mg_many rfl dX11_deals_45 ?_
      refine V_aload_n dX11_deals_48 rfl ?_
      refine V_bipush dX11_deals_49 (by decide) ?_
      refine V_iload dX11_deals_51 rfl ?_
      refine V_iload_n dX11_deals_53 rfl ?_
      refine V_idiv dX11_deals_54 ⟨⟨by omega, by omega⟩, ⟨by omega, by omega⟩, by omega, by omega⟩ ?_
      refine V_imul dX11_deals_55 ?_
      refine V_iload dX11_deals_56 rfl ?_
      refine V_iload_n dX11_deals_58 rfl ?_
      refine V_iremN dX11_deals_59 ⟨⟨by omega, by omega⟩, ⟨by omega, by omega⟩, by omega, by omega⟩ ?_
      refine V_iadd dX11_deals_60 ?_
      refine V_eqT (y := zI (cid P k)) (rfl) ?_
      refine V_iload_n dX11_deals_61 rfl ?_
      refine V_iload_n dX11_deals_62 rfl ?_
      refine V_callVF (As := [.int (zI (cid P k)), .int (zI byRow), .int (zI byColumn)]) (b := a 0) (hb := (show (mW a σ1)[0]? = some (a 0, .inr (10, mF a σ1)) from rfl)) (hc := (show vwCl[10]? = some (RX11, TX11, 30) from rfl)) hK (c_time hE a σ1 (cid P k) byRow byColumn P ⟨hM, hP1, by refine ⟨?_, ?_⟩ <;> (try refine ⟨?_, ?_⟩) <;> omega⟩) mokX11_time w1215 w1217 wps1_14 ⟨Nat.le_of_ble_eq_true rfl, Nat.le_of_ble_eq_true rfl⟩ rfl (Nat.le_of_ble_eq_true rfl) ⟨Nat.le_refl _, Nat.le_refl _⟩ dX11_deals_63 (fun v w p_7 => ?_)
      obtain ⟨rfl, rfl⟩ := p_7
      show V K sX11_deals 0 0 (mW a σ1) _ [.int (zI (tmc P byRow byColumn (cid P k))), .ref (a 16)] 66
      refine V_eqT (y := zI (tm P byRow byColumn k)) (rfl) ?_
      refine V_iconst dX11_deals_66 ?_
      refine V_iadd dX11_deals_67 ?_
      refine V_dup2 dX11_deals_68 rfl rfl ?_
      refine ml_many ⟨by omega, by omega⟩ dX11_deals_69 ?_
      refine V_iconst dX11_deals_70 ?_
      refine V_iadd dX11_deals_71 ?_
      refine ms_many ⟨by omega, by omega⟩ dX11_deals_72 ?_
      refine V_iinc (L' := [some (.ref (a 0)), some (.int (zI byRow)), some (.int (zI byColumn)), some (.int (zI (pt P))), some (.int (zI (k + 1))), none, none]) dX11_deals_73 (by decide) rfl rfl ?_
      refine V_goto (tgt := 35) dX11_deals_76 (by decide) ?_
      refine ih_35 _ (by omega) (k + 1) (up σ1 16 ((tm P byRow byColumn k) + 1) ((σ1 16 ((tm P byRow byColumn k) + 1)) + 1)) rfl ?_ ?_ ?_
      · omega
      · exact hf.upd (by decide)
      · intro u h1 h2
        rw [up_eq, ct_s _ hk.1]
        by_cases e : u = tm P byRow byColumn k + 1
        · rw [e, fup_eq, hc _ (by omega) (by omega)]; simp [bz]
        · rw [fup_ne e, hc u h1 h2, show decide (tm P byRow byColumn k + 1 = u) = false by simp; omega]; simp [bz]
  have seg_35 : ∀ (k : Int) (σ1 : St), (0 ≤ k ∧ k ≤ al P) → (fr [16, 17, 18] σ σ1) → (∀ t, 0 ≤ t → t ≤ 160 → σ1 16 t = ct (fun j => decide (tm P byRow byColumn j + 1 = t)) k) → V K sX11_deals 0 0 (mW a σ1) [some (.ref (a 0)), some (.int (zI byRow)), some (.int (zI byColumn)), some (.int (zI (pt P))), some (.int (zI k)), none, none] [] 35 := fun k σ1 hk hf hc => loop_35 _ k σ1 rfl hk hf hc
  have loop_2 : ∀ (n0 : Nat) (t : Int) (σ1 : St), (161 - t).toNat = n0 → (0 ≤ t ∧ t ≤ 161) → (fr [16, 17, 18] σ σ1) → (∀ u, 0 ≤ u → u < t → σ1 16 u = 0) → V K sX11_deals 0 0 (mW a σ1) [some (.ref (a 0)), some (.int (zI byRow)), some (.int (zI byColumn)), some (.int (zI t)), none, none, none] [] 2 := by
    intro n0
    induction n0 using Nat.strongRecOn with
    | _ n0 ih_2 =>
    intro t σ1 hm_2 hi hf hz
    have hP1 : PR P σ1 := hP.fr hf (by decide)
    have e1 := hP1 0 (by decide) (by decide)
    have f1 : ∀ i, σ1 0 i = P 0 i := fun i => by rw [e1]
    have g1R := f1 0
    have g1C := f1 1
    have g1N := f1 2
    refine V_iload_n dX11_deals_2 rfl ?_
    refine V_sipush dX11_deals_3 (by decide) ?_
    refine V_icmp_gt (tgt := 22) dX11_deals_6 (by decide) ⟨⟨by omega, by omega⟩, ⟨by omega, by omega⟩⟩ (fun c_8 => ?_) (fun c_8 => ?_)
    · refine V_aload_n dX11_deals_22 rfl ?_
      refine mg_rows rfl dX11_deals_23 ?_
      refine V_aload_n dX11_deals_26 rfl ?_
      refine mg_columns rfl dX11_deals_27 ?_
      refine V_imul dX11_deals_30 ?_
      refine V_eqT (y := zI (pt P)) (by rw [g1R, g1C]; rfl) ?_
      refine V_istore_n (L' := [some (.ref (a 0)), some (.int (zI byRow)), some (.int (zI byColumn)), some (.int (zI (pt P))), none, none, none]) dX11_deals_31 (by decide) rfl ?_
      refine V_iconst dX11_deals_32 ?_
      refine V_istore (L' := [some (.ref (a 0)), some (.int (zI byRow)), some (.int (zI byColumn)), some (.int (zI (pt P))), some (.int (zI 0)), none, none]) dX11_deals_33 (by decide) rfl ?_
      refine seg_35 0 σ1 ?_ ?_ ?_
      · omega
      · exact hf
      · intro u h1 h2
        rw [hz u h1 (by omega), ct_0 _ (by omega)]
    · refine V_aload_n dX11_deals_9 rfl ?_
      refine mg_many rfl dX11_deals_10 ?_
      refine V_iload_n dX11_deals_13 rfl ?_
      refine V_iconst dX11_deals_14 ?_
      refine ms_many ⟨by omega, by omega⟩ dX11_deals_15 ?_
      refine V_iinc (L' := [some (.ref (a 0)), some (.int (zI byRow)), some (.int (zI byColumn)), some (.int (zI (t + 1))), none, none, none]) dX11_deals_16 (by decide) rfl rfl ?_
      refine V_goto (tgt := 2) dX11_deals_19 (by decide) ?_
      refine ih_2 _ (by omega) (t + 1) (up σ1 16 t 0) rfl ?_ ?_ ?_
      · omega
      · exact hf.upd (by decide)
      · intro u h1 h2
        rw [up_eq]
        by_cases e : u = t
        · rw [e, fup_eq]
        · rw [fup_ne e]; exact hz u h1 (by omega)
  have seg_2 : ∀ (t : Int) (σ1 : St), (0 ≤ t ∧ t ≤ 161) → (fr [16, 17, 18] σ σ1) → (∀ u, 0 ≤ u → u < t → σ1 16 u = 0) → V K sX11_deals 0 0 (mW a σ1) [some (.ref (a 0)), some (.int (zI byRow)), some (.int (zI byColumn)), some (.int (zI t)), none, none, none] [] 2 := fun t σ1 hi hf hz => loop_2 _ t σ1 rfl hi hf hz
  refine V_iconst dX11_deals_0 ?_
  refine V_istore_n (L' := [some (.ref (a 0)), some (.int (zI byRow)), some (.int (zI byColumn)), some (.int (zI 0)), none, none, none]) dX11_deals_1 (by decide) rfl ?_
  refine seg_2 0 σ ?_ ?_ ?_
  · omega
  · exact fr.rf _ _
  · intro u h1 h2; omega
set_option maxRecDepth 100000 in
set_option maxHeartbeats 4000000 in
theorem c_orders {E : EV} (hE : Stb E) (a : Nat → Nat) (σ : St) (P : St) (hp : MI P ∧ PR P σ) : MC E yX11_orders sX11_orders [.ref (a 0)] (mW a σ) (fun v w => ∃ σ2 : St, v = none ∧ w = mW a σ2 ∧ (fr [16, 17, 18] σ σ2) ∧ (Dealt P (P 0 11) (P 0 12) σ2)) := by
  refine MC.of hE [some (.ref (a 0))] 0 rfl rfl rfl (by simp [Value.category]) (Nat.le_of_ble_eq_true rfl) (fun K hK hR => ?_)
  obtain ⟨hM, hP⟩ := hp
  have e0 := hP 0 (by decide) (by decide)
  have f0 : ∀ i, σ 0 i = P 0 i := fun i => by rw [e0]
  have mR := hM.1
  have mC := hM.2.1
  have mN := hM.2.2.1
  have mp := hM.pts
  have ma := hM.als
  have gR := f0 0
  have gC := f0 1
  have gN := f0 2
  have mW1 := hM.2.2.2.1
  have mW2 := hM.2.2.2.2.1
  have gW1 := f0 11
  have gW2 := f0 12
  refine V_aload_n dX11_orders_0 rfl ?_
  refine V_aload_n dX11_orders_1 rfl ?_
  refine mg_rowWeight rfl dX11_orders_2 ?_
  refine V_aload_n dX11_orders_5 rfl ?_
  refine mg_columnWeight rfl dX11_orders_6 ?_
  refine V_callVF (As := [.int (zI (σ 0 11)), .int (zI (σ 0 12))]) (b := a 0) (hb := (show (mW a σ)[0]? = some (a 0, .inr (10, mF a σ)) from rfl)) (hc := (show vwCl[10]? = some (RX11, TX11, 30) from rfl)) hK (c_deals hE a σ (σ 0 11) (σ 0 12) P ⟨hM, hP, ⟨by omega, by omega⟩, ⟨by omega, by omega⟩⟩) mokX11_deals w1207 w1209 wps1_12 ⟨Nat.le_of_ble_eq_true rfl, Nat.le_of_ble_eq_true rfl⟩ rfl (Nat.le_of_ble_eq_true rfl) ⟨Nat.le_refl _, Nat.le_refl _⟩ dX11_orders_9 (fun v w p_1 => ?_)
  obtain ⟨σ_2, rfl, rfl, q_3, q_4⟩ := p_1
  show V K sX11_orders 0 0 (mW a σ_2) _ [] 12
  refine V_vret hR rfl (Nat.le_refl _) (Nat.le_refl _) dX11_orders_12 ?_
  exact ⟨_, rfl, rfl, q_3, by rw [← gW1, ← gW2]; exact q_4⟩

set_option maxRecDepth 100000 in
set_option maxHeartbeats 4000000 in
theorem c_addStatement {E : EV} (hE : Stb E) (a : Nat → Nat) (σ : St) (v0 : Int) (P : St) (hp : MI P ∧ PR P σ ∧ iR v0) : MC E yX11_addStatement sX11_addStatement [.ref (a 0), .int (zI v0)] (mW a σ) (fun v w => ∃ σ2 : St, v = some (.int (zI ((sp_addStatement P v0).2.1))) ∧ w = mW a σ2 ∧ (σ2 1 29 = (sp_addStatement P v0).1) ∧ (PR (sp_addStatement P v0).2.2 σ2)) := by
  refine MC.of hE [some (.ref (a 0)), some (.int (zI v0))] 0 rfl rfl rfl (by simp [Value.category]) (Nat.le_of_ble_eq_true rfl) (fun K hK hR => ?_)
  obtain ⟨hM, hP, hp⟩ := hp
  have e0 := hP 0 (by decide) (by decide)
  have f0 : ∀ i, σ 0 i = P 0 i := fun i => by rw [e0]
  have mR := hM.1
  have mC := hM.2.1
  have mN := hM.2.2.1
  have mp := hM.pts
  have ma := hM.als
  have gR := f0 0
  have gC := f0 1
  have gN := f0 2
  have hr := hp
  obtain ⟨r0a, r0b⟩ : iR v0 := hp
  refine V_aload_n dX11_addStatement_0 rfl ?_
  refine V_iload_n dX11_addStatement_1 rfl ?_
  refine V_iconst dX11_addStatement_2 ?_
  refine V_bipush dX11_addStatement_3 (by decide) ?_
  refine V_callSE (As := [.int (zI v0), .int (zI 0), .int (zI 99)]) hK (c_isIn hE v0 0 99 (by refine ⟨?_, ?_, ?_⟩ <;> (try refine ⟨?_, ?_⟩) <;> omega)) mokX11_isIn w1169 w1170 ⟨Nat.le_of_ble_eq_true rfl, Nat.le_of_ble_eq_true rfl⟩ rfl (Nat.le_of_ble_eq_true rfl) ⟨Nat.le_refl _, Nat.le_refl _⟩ dX11_addStatement_5 (fun v w p_1 => ?_)
  obtain ⟨rfl, rfl⟩ := p_1
  show V K sX11_addStatement 0 0 (mW a σ) _ [.int (zI (bz (decide (0 ≤ v0 ∧ v0 ≤ 99)))), .ref (a 0)] 8
  refine V_ifd_ne (tgt := 15) dX11_addStatement_8 (by decide) (fun c_2 => ?_) (fun c_2 => ?_)
  · refine V_aload_n dX11_addStatement_15 rfl ?_
    refine mg_statements rfl dX11_addStatement_16 ?_
    refine V_iconst dX11_addStatement_19 ?_
    refine V_icmp_ne (tgt := 27) dX11_addStatement_20 (by decide) ⟨⟨by omega, by omega⟩, ⟨by omega, by omega⟩⟩ (fun c_3 => ?_) (fun c_3 => ?_)
    · refine V_iconst dX11_addStatement_27 ?_
      refine V_callVF (As := [.int (zI 0)]) (b := a 0) (hb := (show (mW a σ)[0]? = some (a 0, .inr (10, mF a σ)) from rfl)) (hc := (show vwCl[10]? = some (RX11, TX11, 30) from rfl)) hK (c_fails hE a σ 0 ⟨by omega, by omega⟩) mokX11_fails w1172 w1174 wps1_9 ⟨Nat.le_of_ble_eq_true rfl, Nat.le_of_ble_eq_true rfl⟩ rfl (Nat.le_of_ble_eq_true rfl) ⟨Nat.le_refl _, Nat.le_refl _⟩ dX11_addStatement_28 (fun v w p_4 => ?_)
      obtain ⟨rfl, rfl⟩ := p_4
      show V K sX11_addStatement 0 0 (mW a (up σ 1 29 0)) _ [.int (zI (bz (decide (0 < 0))))] 31
      refine V_ifd_eq (tgt := 36) dX11_addStatement_31 (by decide) (fun _ => ?_) (fun h => absurd h (by decide))
      refine V_aload_n dX11_addStatement_36 rfl ?_
      refine mg_addend rfl dX11_addStatement_37 ?_
      refine V_aload_n dX11_addStatement_40 rfl ?_
      refine mg_statements rfl dX11_addStatement_41 ?_
      refine V_eqT (y := zI (P 0 2)) (by rw [show (up σ 1 29 0) 0 2 = σ 0 2 from rfl, gN]) ?_
      refine V_iload_n dX11_addStatement_44 rfl ?_
      refine ms_addend ⟨by omega, by omega⟩ dX11_addStatement_45 ?_
      refine V_aload_n dX11_addStatement_46 rfl ?_
      refine mg_kind rfl dX11_addStatement_47 ?_
      refine V_aload_n dX11_addStatement_50 rfl ?_
      refine mg_statements rfl dX11_addStatement_51 ?_
      refine V_eqT (y := zI (P 0 2)) (by rw [← gN]; rfl) ?_
      refine V_iconst dX11_addStatement_54 ?_
      refine ms_kind ⟨by omega, by omega⟩ dX11_addStatement_55 ?_
      refine V_aload_n dX11_addStatement_56 rfl ?_
      refine V_dup dX11_addStatement_57 rfl ?_
      refine mg_statements rfl dX11_addStatement_58 ?_
      refine V_eqT (y := zI (P 0 2)) (by rw [← gN]; rfl) ?_
      refine V_iconst dX11_addStatement_61 ?_
      refine V_iadd dX11_addStatement_62 ?_
      refine mp_statements rfl dX11_addStatement_63 ?_
      refine V_aload_n dX11_addStatement_66 rfl ?_
      refine mg_statements rfl dX11_addStatement_67 ?_
      refine V_eqT (y := zI (P 0 2 + 1)) (by rw [up_eq, fup_eq]) ?_
      refine V_iconst dX11_addStatement_70 ?_
      refine V_isub dX11_addStatement_71 ?_
      refine V_iret hR rfl (Nat.le_refl _) (Nat.le_refl _) dX11_addStatement_72 ?_
      exact pub ((gd_t c_2).trans (gd_t (show P 0 2 ≠ 4 by omega))) (ziE (by omega)) rfl ((((((((hP).up (by decide))).upP _ _ _)).upP _ _ _)).upP _ _ _)
    · refine V_iconst dX11_addStatement_23 ?_
      refine V_goto (tgt := 28) dX11_addStatement_24 (by decide) ?_
      refine V_callVF (As := [.int (zI 2)]) (b := a 0) (hb := (show (mW a σ)[0]? = some (a 0, .inr (10, mF a σ)) from rfl)) (hc := (show vwCl[10]? = some (RX11, TX11, 30) from rfl)) hK (c_fails hE a σ 2 ⟨by omega, by omega⟩) mokX11_fails w1172 w1174 wps1_9 ⟨Nat.le_of_ble_eq_true rfl, Nat.le_of_ble_eq_true rfl⟩ rfl (Nat.le_of_ble_eq_true rfl) ⟨Nat.le_refl _, Nat.le_refl _⟩ dX11_addStatement_28 (fun v w p_6 => ?_)
      obtain ⟨rfl, rfl⟩ := p_6
      show V K sX11_addStatement 0 0 (mW a (up σ 1 29 2)) _ [.int (zI (bz (decide (0 < 2))))] 31
      refine V_ifd_eq (tgt := 36) dX11_addStatement_31 (by decide) (fun h => absurd (by decide) h) (fun _ => ?_)
      refine V_iconst dX11_addStatement_34 ?_
      refine V_iret hR rfl (Nat.le_refl _) (Nat.le_refl _) dX11_addStatement_35 ?_
      exact pub ((gd_t c_2).trans (gd_f (show ¬ P 0 2 ≠ 4 by omega))) rfl rfl ((hP).up (by decide))
  · refine V_iconst dX11_addStatement_11 ?_
    refine V_goto (tgt := 28) dX11_addStatement_12 (by decide) ?_
    refine V_callVF (As := [.int (zI 1)]) (b := a 0) (hb := (show (mW a σ)[0]? = some (a 0, .inr (10, mF a σ)) from rfl)) (hc := (show vwCl[10]? = some (RX11, TX11, 30) from rfl)) hK (c_fails hE a σ 1 ⟨by omega, by omega⟩) mokX11_fails w1172 w1174 wps1_9 ⟨Nat.le_of_ble_eq_true rfl, Nat.le_of_ble_eq_true rfl⟩ rfl (Nat.le_of_ble_eq_true rfl) ⟨Nat.le_refl _, Nat.le_refl _⟩ dX11_addStatement_28 (fun v w p_8 => ?_)
    obtain ⟨rfl, rfl⟩ := p_8
    show V K sX11_addStatement 0 0 (mW a (up σ 1 29 1)) _ [.int (zI (bz (decide (0 < 1))))] 31
    refine V_ifd_eq (tgt := 36) dX11_addStatement_31 (by decide) (fun h => absurd (by decide) h) (fun _ => ?_)
    refine V_iconst dX11_addStatement_34 ?_
    refine V_iret hR rfl (Nat.le_refl _) (Nat.le_refl _) dX11_addStatement_35 ?_
    exact pub (gd_f c_2) rfl rfl ((hP).up (by decide))
set_option maxRecDepth 100000 in
set_option maxHeartbeats 4000000 in
theorem c_addRead {E : EV} (hE : Stb E) (a : Nat → Nat) (σ : St) (s0 : Int) (q0 : Int) (v0 : Int) (u0 : Int) (l0 : Int) (P : St) (hp : MI P ∧ PR P σ ∧ iR s0 ∧ iR q0 ∧ iR v0 ∧ iR u0 ∧ iR l0) : MC E yX11_addRead sX11_addRead [.ref (a 0), .int (zI s0), .int (zI q0), .int (zI v0), .int (zI u0), .int (zI l0)] (mW a σ) (fun v w => ∃ σ2 : St, v = some (.int (zI ((sp_addRead P s0 q0 v0 u0 l0).2.1))) ∧ w = mW a σ2 ∧ (σ2 1 29 = (sp_addRead P s0 q0 v0 u0 l0).1) ∧ (PR (sp_addRead P s0 q0 v0 u0 l0).2.2 σ2)) := by
  refine MC.of hE [some (.ref (a 0)), some (.int (zI s0)), some (.int (zI q0)), some (.int (zI v0)), some (.int (zI u0)), some (.int (zI l0)), none, none] 2 rfl rfl rfl (by simp [Value.category]) (Nat.le_of_ble_eq_true rfl) (fun K hK hR => ?_)
  obtain ⟨hM, hP, hp⟩ := hp
  have e0 := hP 0 (by decide) (by decide)
  have f0 : ∀ i, σ 0 i = P 0 i := fun i => by rw [e0]
  have mR := hM.1
  have mC := hM.2.1
  have mN := hM.2.2.1
  have mp := hM.pts
  have ma := hM.als
  have gR := f0 0
  have gC := f0 1
  have gN := f0 2
  have hr := hp
  obtain ⟨r0a, r0b⟩ : iR s0 := hp.1
  obtain ⟨r1a, r1b⟩ : iR q0 := hp.2.1
  obtain ⟨r2a, r2b⟩ : iR v0 := hp.2.2.1
  obtain ⟨r3a, r3b⟩ : iR u0 := hp.2.2.2.1
  obtain ⟨r4a, r4b⟩ : iR l0 := hp.2.2.2.2
  have seg_36 : ∀ (b : Bool), (b = true ↔ ((1 ≤ v0 ∧ v0 ≤ 9) ∧ (0 ≤ u0 ∧ u0 ≤ 3) ∧ (-3 ≤ l0 ∧ l0 ≤ 3))) → V K sX11_addRead 0 0 (mW a σ) [some (.ref (a 0)), some (.int (zI s0)), some (.int (zI q0)), some (.int (zI v0)), some (.int (zI u0)), some (.int (zI l0)), none, none] [.int (zI (bz b))] 36 := by
    intro b hb
    refine V_istore (L' := [some (.ref (a 0)), some (.int (zI s0)), some (.int (zI q0)), some (.int (zI v0)), some (.int (zI u0)), some (.int (zI l0)), some (.int (zI (bz b))), none]) dX11_addRead_36 (by decide) rfl ?_
    refine V_aload_n dX11_addRead_38 rfl ?_
    refine V_aload_n dX11_addRead_39 rfl ?_
    refine V_iload_n dX11_addRead_40 rfl ?_
    refine V_callVF (As := [.int (zI s0)]) (b := a 0) (hb := (show (mW a σ)[0]? = some (a 0, .inr (10, mF a σ)) from rfl)) (hc := (show vwCl[10]? = some (RX11, TX11, 30) from rfl)) hK (c_is hE a σ s0 P ⟨hM, hP, by (try refine ⟨?_, ?_⟩) <;> omega⟩) mokX11_is w1180 w1182 wps1_10 ⟨Nat.le_of_ble_eq_true rfl, Nat.le_of_ble_eq_true rfl⟩ rfl (Nat.le_of_ble_eq_true rfl) ⟨Nat.le_refl _, Nat.le_refl _⟩ dX11_addRead_41 (fun v w p_1 => ?_)
    obtain ⟨rfl, rfl⟩ := p_1
    show V K sX11_addRead 0 0 (mW a σ) _ [.int (zI (bz (decide (0 ≤ s0 ∧ s0 < P 0 2)))), .ref (a 0)] 44
    refine V_ifd_eq (tgt := 55) dX11_addRead_44 (by decide) (fun c_2 => ?_) (fun c_2 => ?_)
    · refine V_iconst dX11_addRead_55 ?_
      refine V_goto (tgt := 83) dX11_addRead_56 (by decide) ?_
      refine V_callVF (As := [.int (zI 1)]) (b := a 0) (hb := (show (mW a σ)[0]? = some (a 0, .inr (10, mF a σ)) from rfl)) (hc := (show vwCl[10]? = some (RX11, TX11, 30) from rfl)) hK (c_fails hE a σ 1 ⟨by omega, by omega⟩) mokX11_fails w1172 w1174 wps1_9 ⟨Nat.le_of_ble_eq_true rfl, Nat.le_of_ble_eq_true rfl⟩ rfl (Nat.le_of_ble_eq_true rfl) ⟨Nat.le_refl _, Nat.le_refl _⟩ dX11_addRead_83 (fun v w p_3 => ?_)
      obtain ⟨rfl, rfl⟩ := p_3
      show V K sX11_addRead 0 0 (mW a (up σ 1 29 1)) _ [.int (zI (bz (decide (0 < 1))))] 86
      refine V_ifd_eq (tgt := 91) dX11_addRead_86 (by decide) (fun h => absurd (by decide) h) (fun _ => ?_)
      refine V_iconst dX11_addRead_89 ?_
      refine V_iret hR rfl (Nat.le_refl _) (Nat.le_refl _) dX11_addRead_90 ?_
      exact pub (gd_f (fun h => c_2 h.1)) rfl rfl ((hP).up (by decide))
    · refine V_aload_n dX11_addRead_47 rfl ?_
      refine V_iload_n dX11_addRead_48 rfl ?_
      refine V_callVF (As := [.int (zI q0)]) (b := a 0) (hb := (show (mW a σ)[0]? = some (a 0, .inr (10, mF a σ)) from rfl)) (hc := (show vwCl[10]? = some (RX11, TX11, 30) from rfl)) hK (c_is hE a σ q0 P ⟨hM, hP, by (try refine ⟨?_, ?_⟩) <;> omega⟩) mokX11_is w1180 w1182 wps1_10 ⟨Nat.le_of_ble_eq_true rfl, Nat.le_of_ble_eq_true rfl⟩ rfl (Nat.le_of_ble_eq_true rfl) ⟨Nat.le_refl _, Nat.le_refl _⟩ dX11_addRead_49 (fun v w p_5 => ?_)
      obtain ⟨rfl, rfl⟩ := p_5
      show V K sX11_addRead 0 0 (mW a σ) _ [.int (zI (bz (decide (0 ≤ q0 ∧ q0 < P 0 2)))), .ref (a 0)] 52
      refine V_ifd_ne (tgt := 59) dX11_addRead_52 (by decide) (fun c_6 => ?_) (fun c_6 => ?_)
      · refine V_iload dX11_addRead_59 rfl ?_
        refine V_ifb_ne (tgt := 68) dX11_addRead_61 (by decide) (fun c_7 => ?_) (fun c_7 => ?_)
        · have q4 := (hM.2.2.2.2.2.1 s0 (by omega) (by omega)).2.1
          have q5 : σ 4 s0 = P 4 s0 := by rw [hP 4 (by decide) (by decide)]
          refine V_aload_n dX11_addRead_68 rfl ?_
          refine mg_reads rfl dX11_addRead_69 ?_
          refine V_iload_n dX11_addRead_72 rfl ?_
          refine ml_reads ⟨by omega, by omega⟩ dX11_addRead_73 ?_
          refine V_iconst dX11_addRead_74 ?_
          refine V_icmp_ne (tgt := 82) dX11_addRead_75 (by decide) ⟨⟨by omega, by omega⟩, ⟨by omega, by omega⟩⟩ (fun c_8 => ?_) (fun c_8 => ?_)
          · refine V_iconst dX11_addRead_82 ?_
            refine V_callVF (As := [.int (zI 0)]) (b := a 0) (hb := (show (mW a σ)[0]? = some (a 0, .inr (10, mF a σ)) from rfl)) (hc := (show vwCl[10]? = some (RX11, TX11, 30) from rfl)) hK (c_fails hE a σ 0 ⟨by omega, by omega⟩) mokX11_fails w1172 w1174 wps1_9 ⟨Nat.le_of_ble_eq_true rfl, Nat.le_of_ble_eq_true rfl⟩ rfl (Nat.le_of_ble_eq_true rfl) ⟨Nat.le_refl _, Nat.le_refl _⟩ dX11_addRead_83 (fun v w p_9 => ?_)
            obtain ⟨rfl, rfl⟩ := p_9
            show V K sX11_addRead 0 0 (mW a (up σ 1 29 0)) _ [.int (zI (bz (decide (0 < 0))))] 86
            refine V_ifd_eq (tgt := 91) dX11_addRead_86 (by decide) (fun _ => ?_) (fun h => absurd h (by decide))
            refine V_iconst dX11_addRead_91 ?_
            refine V_iload_n dX11_addRead_92 rfl ?_
            refine V_imul dX11_addRead_93 ?_
            refine V_aload_n dX11_addRead_94 rfl ?_
            refine mg_reads rfl dX11_addRead_95 ?_
            refine V_iload_n dX11_addRead_98 rfl ?_
            refine ml_reads ⟨by omega, by omega⟩ dX11_addRead_99 ?_
            refine V_iadd dX11_addRead_100 ?_
            refine V_eqT (y := zI (4 * s0 + P 4 s0)) (by rw [show (up σ 1 29 0) 4 s0 = σ 4 s0 from rfl, q5]) ?_
            refine V_istore (L' := [some (.ref (a 0)), some (.int (zI s0)), some (.int (zI q0)), some (.int (zI v0)), some (.int (zI u0)), some (.int (zI l0)), some (.int (zI (bz b))), some (.int (zI (4 * s0 + P 4 s0)))]) dX11_addRead_101 (by decide) rfl ?_
            refine V_aload_n dX11_addRead_103 rfl ?_
            refine mg_source rfl dX11_addRead_104 ?_
            refine V_iload dX11_addRead_107 rfl ?_
            refine V_iload_n dX11_addRead_109 rfl ?_
            refine ms_source ⟨by omega, by omega⟩ dX11_addRead_110 ?_
            refine V_aload_n dX11_addRead_111 rfl ?_
            refine mg_factor rfl dX11_addRead_112 ?_
            refine V_iload dX11_addRead_115 rfl ?_
            refine V_iload_n dX11_addRead_117 rfl ?_
            refine ms_factor ⟨by omega, by omega⟩ dX11_addRead_118 ?_
            refine V_aload_n dX11_addRead_119 rfl ?_
            refine mg_rowsBack rfl dX11_addRead_120 ?_
            refine V_iload dX11_addRead_123 rfl ?_
            refine V_iload dX11_addRead_125 rfl ?_
            refine ms_rowsBack ⟨by omega, by omega⟩ dX11_addRead_127 ?_
            refine V_aload_n dX11_addRead_128 rfl ?_
            refine mg_columnsBack rfl dX11_addRead_129 ?_
            refine V_iload dX11_addRead_132 rfl ?_
            refine V_iload dX11_addRead_134 rfl ?_
            refine ms_columnsBack ⟨by omega, by omega⟩ dX11_addRead_136 ?_
            refine V_aload_n dX11_addRead_137 rfl ?_
            refine mg_reads rfl dX11_addRead_138 ?_
            refine V_iload_n dX11_addRead_141 rfl ?_
            refine V_dup2 dX11_addRead_142 rfl rfl ?_
            refine ml_reads ⟨by omega, by omega⟩ dX11_addRead_143 ?_
            refine V_eqT (y := zI (P 4 s0)) (by rw [← q5]; rfl) ?_
            refine V_iconst dX11_addRead_144 ?_
            refine V_iadd dX11_addRead_145 ?_
            refine ms_reads ⟨by omega, by omega⟩ dX11_addRead_146 ?_
            refine V_aload_n dX11_addRead_147 rfl ?_
            refine mg_reads rfl dX11_addRead_148 ?_
            refine V_iload_n dX11_addRead_151 rfl ?_
            refine ml_reads ⟨by omega, by omega⟩ dX11_addRead_152 ?_
            refine V_eqT (y := zI (P 4 s0 + 1)) (by show zI (fup _ _ _ _) = _; rw [fup_eq]) ?_
            refine V_iconst dX11_addRead_153 ?_
            refine V_isub dX11_addRead_154 ?_
            refine V_iret hR rfl (Nat.le_refl _) (Nat.le_refl _) dX11_addRead_155 ?_
            exact pub ((gd_t ⟨c_2, c_6⟩).trans ((gd_t (hb.mp c_7)).trans (gd_t (show P 4 s0 ≠ 4 by omega)))) (ziE (by omega)) rfl ((((((((((((hP).up (by decide))).upP _ _ _)).upP _ _ _)).upP _ _ _)).upP _ _ _)).upP _ _ _)
          · refine V_iconst dX11_addRead_78 ?_
            refine V_goto (tgt := 83) dX11_addRead_79 (by decide) ?_
            refine V_callVF (As := [.int (zI 3)]) (b := a 0) (hb := (show (mW a σ)[0]? = some (a 0, .inr (10, mF a σ)) from rfl)) (hc := (show vwCl[10]? = some (RX11, TX11, 30) from rfl)) hK (c_fails hE a σ 3 ⟨by omega, by omega⟩) mokX11_fails w1172 w1174 wps1_9 ⟨Nat.le_of_ble_eq_true rfl, Nat.le_of_ble_eq_true rfl⟩ rfl (Nat.le_of_ble_eq_true rfl) ⟨Nat.le_refl _, Nat.le_refl _⟩ dX11_addRead_83 (fun v w p_11 => ?_)
            obtain ⟨rfl, rfl⟩ := p_11
            show V K sX11_addRead 0 0 (mW a (up σ 1 29 3)) _ [.int (zI (bz (decide (0 < 3))))] 86
            refine V_ifd_eq (tgt := 91) dX11_addRead_86 (by decide) (fun h => absurd (by decide) h) (fun _ => ?_)
            refine V_iconst dX11_addRead_89 ?_
            refine V_iret hR rfl (Nat.le_refl _) (Nat.le_refl _) dX11_addRead_90 ?_
            exact pub ((gd_t ⟨c_2, c_6⟩).trans ((gd_t (hb.mp c_7)).trans (gd_f (show ¬ P 4 s0 ≠ 4 by omega)))) rfl rfl ((hP).up (by decide))
        · refine V_iconst dX11_addRead_64 ?_
          refine V_goto (tgt := 83) dX11_addRead_65 (by decide) ?_
          refine V_callVF (As := [.int (zI 2)]) (b := a 0) (hb := (show (mW a σ)[0]? = some (a 0, .inr (10, mF a σ)) from rfl)) (hc := (show vwCl[10]? = some (RX11, TX11, 30) from rfl)) hK (c_fails hE a σ 2 ⟨by omega, by omega⟩) mokX11_fails w1172 w1174 wps1_9 ⟨Nat.le_of_ble_eq_true rfl, Nat.le_of_ble_eq_true rfl⟩ rfl (Nat.le_of_ble_eq_true rfl) ⟨Nat.le_refl _, Nat.le_refl _⟩ dX11_addRead_83 (fun v w p_13 => ?_)
          obtain ⟨rfl, rfl⟩ := p_13
          show V K sX11_addRead 0 0 (mW a (up σ 1 29 2)) _ [.int (zI (bz (decide (0 < 2))))] 86
          refine V_ifd_eq (tgt := 91) dX11_addRead_86 (by decide) (fun h => absurd (by decide) h) (fun _ => ?_)
          refine V_iconst dX11_addRead_89 ?_
          refine V_iret hR rfl (Nat.le_refl _) (Nat.le_refl _) dX11_addRead_90 ?_
          exact pub ((gd_t ⟨c_2, c_6⟩).trans (gd_f (fun h => by rw [hb.mpr h] at c_7; cases c_7))) rfl rfl ((hP).up (by decide))
      · refine V_iconst dX11_addRead_55 ?_
        refine V_goto (tgt := 83) dX11_addRead_56 (by decide) ?_
        refine V_callVF (As := [.int (zI 1)]) (b := a 0) (hb := (show (mW a σ)[0]? = some (a 0, .inr (10, mF a σ)) from rfl)) (hc := (show vwCl[10]? = some (RX11, TX11, 30) from rfl)) hK (c_fails hE a σ 1 ⟨by omega, by omega⟩) mokX11_fails w1172 w1174 wps1_9 ⟨Nat.le_of_ble_eq_true rfl, Nat.le_of_ble_eq_true rfl⟩ rfl (Nat.le_of_ble_eq_true rfl) ⟨Nat.le_refl _, Nat.le_refl _⟩ dX11_addRead_83 (fun v w p_15 => ?_)
        obtain ⟨rfl, rfl⟩ := p_15
        show V K sX11_addRead 0 0 (mW a (up σ 1 29 1)) _ [.int (zI (bz (decide (0 < 1))))] 86
        refine V_ifd_eq (tgt := 91) dX11_addRead_86 (by decide) (fun h => absurd (by decide) h) (fun _ => ?_)
        refine V_iconst dX11_addRead_89 ?_
        refine V_iret hR rfl (Nat.le_refl _) (Nat.le_refl _) dX11_addRead_90 ?_
        exact pub (gd_f (fun h => c_6 h.2)) rfl rfl ((hP).up (by decide))
  refine V_iload_n dX11_addRead_0 rfl ?_
  refine V_iconst dX11_addRead_1 ?_
  refine V_bipush dX11_addRead_2 (by decide) ?_
  refine V_callSE (As := [.int (zI v0), .int (zI 1), .int (zI 9)]) hK (c_isIn hE v0 1 9 (by refine ⟨?_, ?_, ?_⟩ <;> (try refine ⟨?_, ?_⟩) <;> omega)) mokX11_isIn w1169 w1170 ⟨Nat.le_of_ble_eq_true rfl, Nat.le_of_ble_eq_true rfl⟩ rfl (Nat.le_of_ble_eq_true rfl) ⟨Nat.le_refl _, Nat.le_refl _⟩ dX11_addRead_4 (fun v w p_17 => ?_)
  obtain ⟨rfl, rfl⟩ := p_17
  show V K sX11_addRead 0 0 (mW a σ) _ [.int (zI (bz (decide (1 ≤ v0 ∧ v0 ≤ 9))))] 7
  refine V_ifd_eq (tgt := 35) dX11_addRead_7 (by decide) (fun c_18 => ?_) (fun c_18 => ?_)
  · refine V_iconst dX11_addRead_35 ?_
    refine seg_36 false ?_
    · exact ⟨fun h => (nomatch h), fun h => absurd h.1 c_18⟩
  · refine V_iload dX11_addRead_10 rfl ?_
    refine V_iconst dX11_addRead_12 ?_
    refine V_iconst dX11_addRead_13 ?_
    refine V_callSE (As := [.int (zI u0), .int (zI 0), .int (zI 3)]) hK (c_isIn hE u0 0 3 (by refine ⟨?_, ?_, ?_⟩ <;> (try refine ⟨?_, ?_⟩) <;> omega)) mokX11_isIn w1169 w1170 ⟨Nat.le_of_ble_eq_true rfl, Nat.le_of_ble_eq_true rfl⟩ rfl (Nat.le_of_ble_eq_true rfl) ⟨Nat.le_refl _, Nat.le_refl _⟩ dX11_addRead_14 (fun v w p_19 => ?_)
    obtain ⟨rfl, rfl⟩ := p_19
    show V K sX11_addRead 0 0 (mW a σ) _ [.int (zI (bz (decide (0 ≤ u0 ∧ u0 ≤ 3))))] 17
    refine V_ifd_eq (tgt := 35) dX11_addRead_17 (by decide) (fun c_20 => ?_) (fun c_20 => ?_)
    · refine V_iconst dX11_addRead_35 ?_
      refine seg_36 false ?_
      · exact ⟨fun h => (nomatch h), fun h => absurd h.2.1 c_20⟩
    · refine V_iload dX11_addRead_20 rfl ?_
      refine V_bipush dX11_addRead_22 (by decide) ?_
      refine V_iconst dX11_addRead_24 ?_
      refine V_callSE (As := [.int (zI l0), .int (zI (-3)), .int (zI 3)]) hK (c_isIn hE l0 (-3) 3 (by refine ⟨?_, ?_, ?_⟩ <;> (try refine ⟨?_, ?_⟩) <;> omega)) mokX11_isIn w1169 w1170 ⟨Nat.le_of_ble_eq_true rfl, Nat.le_of_ble_eq_true rfl⟩ rfl (Nat.le_of_ble_eq_true rfl) ⟨Nat.le_refl _, Nat.le_refl _⟩ dX11_addRead_25 (fun v w p_21 => ?_)
      obtain ⟨rfl, rfl⟩ := p_21
      show V K sX11_addRead 0 0 (mW a σ) _ [.int (zI (bz (decide ((-3) ≤ l0 ∧ l0 ≤ 3))))] 28
      refine V_ifd_eq (tgt := 35) dX11_addRead_28 (by decide) (fun c_22 => ?_) (fun c_22 => ?_)
      · refine V_iconst dX11_addRead_35 ?_
        refine seg_36 false ?_
        · exact ⟨fun h => (nomatch h), fun h => absurd h.2.2 c_22⟩
      · refine V_iconst dX11_addRead_31 ?_
        refine V_goto (tgt := 36) dX11_addRead_32 (by decide) ?_
        refine seg_36 true ?_
        · exact ⟨fun _ => ⟨c_18, c_20, c_22⟩, fun _ => rfl⟩
set_option maxRecDepth 100000 in
set_option maxHeartbeats 4000000 in
theorem c_conflictPairs {E : EV} (hE : Stb E) (a : Nat → Nat) (σ : St) (s0 : Int) (P : St) (hp : MI P ∧ PR P σ ∧ iR s0) : MC E yX11_conflictPairs sX11_conflictPairs [.ref (a 0), .int (zI s0)] (mW a σ) (fun v w => ∃ σ2 : St, v = some (.int (zI ((sp_conflictPairs P s0).2.1))) ∧ w = mW a σ2 ∧ (σ2 1 29 = (sp_conflictPairs P s0).1) ∧ (PR (sp_conflictPairs P s0).2.2 σ2)) := by
  refine MC.of hE [some (.ref (a 0)), some (.int (zI s0)), none, none] 2 rfl rfl rfl (by simp [Value.category]) (Nat.le_of_ble_eq_true rfl) (fun K hK hR => ?_)
  obtain ⟨hM, hP, hp⟩ := hp
  have e0 := hP 0 (by decide) (by decide)
  have f0 : ∀ i, σ 0 i = P 0 i := fun i => by rw [e0]
  have mR := hM.1
  have mC := hM.2.1
  have mN := hM.2.2.1
  have mp := hM.pts
  have ma := hM.als
  have gR := f0 0
  have gC := f0 1
  have gN := f0 2
  have hr := hp
  obtain ⟨r0a, r0b⟩ : iR s0 := hp
  have loop_30 : ∀ (n0 : Nat) (q : Int) (σ1 : St), (pt P - q).toNat = n0 → (inS P s0) → (0 ≤ q ∧ q ≤ pt P) → (PR P σ1) → (σ1 1 29 = 0) → (Dealt P (P 0 11) (P 0 12) σ1) → (Lived P (P 0 11) (P 0 12) σ1) → V K sX11_conflictPairs 0 0 (mW a σ1) [some (.ref (a 0)), some (.int (zI s0)), some (.int (zI (smv (fun q => ct (fun p => cf P (P 0 11) (P 0 12) (s0 * pt P + q) (s0 * pt P + p)) (pt P)) q))), some (.int (zI q))] [] 30 := by
    intro n0
    induction n0 using Nat.strongRecOn with
    | _ n0 ih_30 =>
    intro q σ1 hm_30 hin hq hP1 hT hD hL
    have g1R : σ1 0 0 = P 0 0 := by rw [hP1 0 (by decide) (by decide)]
    have g1C : σ1 0 1 = P 0 1 := by rw [hP1 0 (by decide) (by decide)]
    have sb := smv_s (fun q => ct (fun p => cf P (P 0 11) (P 0 12) (s0 * pt P + q) (s0 * pt P + p)) (pt P)) hq.1
    have sbb := smv_b (f := fun q => ct (fun p => cf P (P 0 11) (P 0 12) (s0 * pt P + q) (s0 * pt P + p)) (pt P)) (B := 64) q hq.1 (fun j _ _ => by have := ct_b (fun p => cf P (P 0 11) (P 0 12) (s0 * pt P + j) (s0 * pt P + p)) (pt P) (by omega); omega)
    refine V_iload_n dX11_conflictPairs_30 rfl ?_
    refine V_aload_n dX11_conflictPairs_31 rfl ?_
    refine mg_rows rfl dX11_conflictPairs_32 ?_
    refine V_aload_n dX11_conflictPairs_35 rfl ?_
    refine mg_columns rfl dX11_conflictPairs_36 ?_
    refine V_imul dX11_conflictPairs_39 ?_
    refine V_eqT (y := zI (pt P)) (by rw [g1R, g1C]; rfl) ?_
    refine V_icmp_ge (tgt := 63) dX11_conflictPairs_40 (by decide) ⟨⟨by omega, by omega⟩, ⟨by omega, by omega⟩⟩ (fun c_1 => ?_) (fun c_1 => ?_)
    · refine V_iload_n dX11_conflictPairs_63 rfl ?_
      refine V_iconst dX11_conflictPairs_64 ?_
      refine V_idiv dX11_conflictPairs_65 ⟨⟨by omega, by omega⟩, ⟨by omega, by omega⟩, by omega, by omega⟩ ?_
      refine V_iret hR rfl (Nat.le_refl _) (Nat.le_refl _) dX11_conflictPairs_66 ?_
      exact pub (gd_t hin) (ziE (by rw [cpr, show q = pt P by omega])) hT hP1
    · have kc := comp_eq hM hin.1 hin.2 hq.1 (show q < pt P by omega)
      refine V_iload_n dX11_conflictPairs_43 rfl ?_
      refine V_aload_n dX11_conflictPairs_44 rfl ?_
      refine V_bipush dX11_conflictPairs_45 (by decide) ?_
      refine V_iload_n dX11_conflictPairs_47 rfl ?_
      refine V_imul dX11_conflictPairs_48 ?_
      refine V_iload_n dX11_conflictPairs_49 rfl ?_
      refine V_iadd dX11_conflictPairs_50 ?_
      refine V_iload_n dX11_conflictPairs_51 rfl ?_
      refine V_callVF (As := [.int (zI ((64 * s0) + q)), .int (zI s0)]) (b := a 0) (hb := (show (mW a σ1)[0]? = some (a 0, .inr (10, mF a σ1)) from rfl)) (hc := (show vwCl[10]? = some (RX11, TX11, 30) from rfl)) hK (c_conflicts hE a σ1 ((64 * s0) + q) s0 P (P 0 11) (P 0 12) (s0 * pt P + q) ⟨hM, hP1, hD, hL, kc.1, hin, kc.2.2.2.symm⟩) mokX11_conflicts w1323 w1325 wps2_12 ⟨Nat.le_of_ble_eq_true rfl, Nat.le_of_ble_eq_true rfl⟩ rfl (Nat.le_of_ble_eq_true rfl) ⟨Nat.le_refl _, Nat.le_refl _⟩ dX11_conflictPairs_52 (fun v w p_2 => ?_)
      obtain ⟨rfl, rfl⟩ := p_2
      show V K sX11_conflictPairs 0 0 (mW a σ1) _ [.int (zI (ct (fun p => cf P (P 0 11) (P 0 12) (s0 * pt P + q) (s0 * pt P + p)) (pt P))), .int (zI (smv (fun q => ct (fun p => cf P (P 0 11) (P 0 12) (s0 * pt P + q) (s0 * pt P + p)) (pt P)) q))] 55
      refine V_iadd dX11_conflictPairs_55 ?_
      refine V_istore_n (L' := [some (.ref (a 0)), some (.int (zI s0)), some (.int (zI ((smv (fun q => ct (fun p => cf P (P 0 11) (P 0 12) (s0 * pt P + q) (s0 * pt P + p)) (pt P)) q) + (ct (fun p => cf P (P 0 11) (P 0 12) (s0 * pt P + q) (s0 * pt P + p)) (pt P))))), some (.int (zI q))]) dX11_conflictPairs_56 (by decide) rfl ?_
      refine V_iinc (L' := [some (.ref (a 0)), some (.int (zI s0)), some (.int (zI ((smv (fun q => ct (fun p => cf P (P 0 11) (P 0 12) (s0 * pt P + q) (s0 * pt P + p)) (pt P)) q) + (ct (fun p => cf P (P 0 11) (P 0 12) (s0 * pt P + q) (s0 * pt P + p)) (pt P))))), some (.int (zI (q + 1)))]) dX11_conflictPairs_57 (by decide) rfl rfl ?_
      refine V_goto (tgt := 30) dX11_conflictPairs_60 (by decide) ?_
      refine V_locE (L' := [some (.ref (a 0)), some (.int (zI s0)), some (.int (zI (smv (fun q => ct (fun p => cf P (P 0 11) (P 0 12) (s0 * pt P + q) (s0 * pt P + p)) (pt P)) (q + 1)))), some (.int (zI (q + 1)))]) (by rw [sb]) ?_
      refine ih_30 _ (by omega) (q + 1) σ1 rfl ?_ ?_ ?_ ?_ ?_ ?_
      · exact hin
      · omega
      · exact hP1
      · exact hT
      · exact hD
      · exact hL
  have seg_30 : ∀ (q : Int) (σ1 : St), (inS P s0) → (0 ≤ q ∧ q ≤ pt P) → (PR P σ1) → (σ1 1 29 = 0) → (Dealt P (P 0 11) (P 0 12) σ1) → (Lived P (P 0 11) (P 0 12) σ1) → V K sX11_conflictPairs 0 0 (mW a σ1) [some (.ref (a 0)), some (.int (zI s0)), some (.int (zI (smv (fun q => ct (fun p => cf P (P 0 11) (P 0 12) (s0 * pt P + q) (s0 * pt P + p)) (pt P)) q))), some (.int (zI q))] [] 30 := fun q σ1 hin hq hP1 hT hD hL => loop_30 _ q σ1 rfl hin hq hP1 hT hD hL
  refine V_aload_n dX11_conflictPairs_0 rfl ?_
  refine V_aload_n dX11_conflictPairs_1 rfl ?_
  refine V_iload_n dX11_conflictPairs_2 rfl ?_
  refine V_callVF (As := [.int (zI s0)]) (b := a 0) (hb := (show (mW a σ)[0]? = some (a 0, .inr (10, mF a σ)) from rfl)) (hc := (show vwCl[10]? = some (RX11, TX11, 30) from rfl)) hK (c_is hE a σ s0 P ⟨hM, hP, by (try refine ⟨?_, ?_⟩) <;> omega⟩) mokX11_is w1180 w1182 wps1_10 ⟨Nat.le_of_ble_eq_true rfl, Nat.le_of_ble_eq_true rfl⟩ rfl (Nat.le_of_ble_eq_true rfl) ⟨Nat.le_refl _, Nat.le_refl _⟩ dX11_conflictPairs_3 (fun v w p_3 => ?_)
  obtain ⟨rfl, rfl⟩ := p_3
  show V K sX11_conflictPairs 0 0 (mW a σ) _ [.int (zI (bz (decide (0 ≤ s0 ∧ s0 < P 0 2)))), .ref (a 0)] 6
  refine V_ifd_eq (tgt := 13) dX11_conflictPairs_6 (by decide) (fun c_4 => ?_) (fun c_4 => ?_)
  · refine V_iconst dX11_conflictPairs_13 ?_
    refine V_callVF (As := [.int (zI 1)]) (b := a 0) (hb := (show (mW a σ)[0]? = some (a 0, .inr (10, mF a σ)) from rfl)) (hc := (show vwCl[10]? = some (RX11, TX11, 30) from rfl)) hK (c_fails hE a σ 1 ⟨by omega, by omega⟩) mokX11_fails w1172 w1174 wps1_9 ⟨Nat.le_of_ble_eq_true rfl, Nat.le_of_ble_eq_true rfl⟩ rfl (Nat.le_of_ble_eq_true rfl) ⟨Nat.le_refl _, Nat.le_refl _⟩ dX11_conflictPairs_14 (fun v w p_5 => ?_)
    obtain ⟨rfl, rfl⟩ := p_5
    show V K sX11_conflictPairs 0 0 (mW a (up σ 1 29 1)) _ [.int (zI (bz (decide (0 < 1))))] 17
    refine V_ifd_eq (tgt := 22) dX11_conflictPairs_17 (by decide) (fun h => absurd (by decide) h) (fun _ => ?_)
    refine V_iconst dX11_conflictPairs_20 ?_
    refine V_iret hR rfl (Nat.le_refl _) (Nat.le_refl _) dX11_conflictPairs_21 ?_
    exact pub (gd_f c_4) rfl rfl ((hP).up (by decide))
  · refine V_iconst dX11_conflictPairs_9 ?_
    refine V_goto (tgt := 14) dX11_conflictPairs_10 (by decide) ?_
    refine V_callVF (As := [.int (zI 0)]) (b := a 0) (hb := (show (mW a σ)[0]? = some (a 0, .inr (10, mF a σ)) from rfl)) (hc := (show vwCl[10]? = some (RX11, TX11, 30) from rfl)) hK (c_fails hE a σ 0 ⟨by omega, by omega⟩) mokX11_fails w1172 w1174 wps1_9 ⟨Nat.le_of_ble_eq_true rfl, Nat.le_of_ble_eq_true rfl⟩ rfl (Nat.le_of_ble_eq_true rfl) ⟨Nat.le_refl _, Nat.le_refl _⟩ dX11_conflictPairs_14 (fun v w p_7 => ?_)
    obtain ⟨rfl, rfl⟩ := p_7
    show V K sX11_conflictPairs 0 0 (mW a (up σ 1 29 0)) _ [.int (zI (bz (decide (0 < 0))))] 17
    refine V_ifd_eq (tgt := 22) dX11_conflictPairs_17 (by decide) (fun _ => ?_) (fun h => absurd h (by decide))
    refine V_aload_n dX11_conflictPairs_22 rfl ?_
    refine V_callVF (As := []) (b := a 0) (hb := (show (mW a (up σ 1 29 0))[0]? = some (a 0, .inr (10, mF a (up σ 1 29 0))) from rfl)) (hc := (show vwCl[10]? = some (RX11, TX11, 30) from rfl)) hK (c_finds hE a (up σ 1 29 0) P ⟨hM, ((hP).up (by decide))⟩) mokX11_finds w1295 w1297 wps2_9 ⟨Nat.le_of_ble_eq_true rfl, Nat.le_of_ble_eq_true rfl⟩ rfl (Nat.le_of_ble_eq_true rfl) ⟨Nat.le_refl _, Nat.le_refl _⟩ dX11_conflictPairs_23 (fun v w p_9 => ?_)
    obtain ⟨σ_10, rfl, rfl, q_11, q_12, q_13⟩ := p_9
    show V K sX11_conflictPairs 0 0 (mW a σ_10) _ [] 26
    refine V_iconst dX11_conflictPairs_26 ?_
    refine V_eqT (y := zI (smv (fun q => ct (fun p => cf P (P 0 11) (P 0 12) (s0 * pt P + q) (s0 * pt P + p)) (pt P)) 0)) (by rw [smv_0]) ?_
    refine V_istore_n (L' := [some (.ref (a 0)), some (.int (zI s0)), some (.int (zI (smv (fun q => ct (fun p => cf P (P 0 11) (P 0 12) (s0 * pt P + q) (s0 * pt P + p)) (pt P)) 0))), none]) dX11_conflictPairs_27 (by decide) rfl ?_
    refine V_iconst dX11_conflictPairs_28 ?_
    refine V_istore_n (L' := [some (.ref (a 0)), some (.int (zI s0)), some (.int (zI (smv (fun q => ct (fun p => cf P (P 0 11) (P 0 12) (s0 * pt P + q) (s0 * pt P + p)) (pt P)) 0))), some (.int (zI 0))]) dX11_conflictPairs_29 (by decide) rfl ?_
    refine seg_30 0 σ_10 ?_ ?_ ?_ ?_ ?_ ?_
    · exact c_4
    · omega
    · exact ((((hP).up (by decide))).fr q_11 (by decide))
    · exact ((congrFun (q_11 1 (by decide)) 29).trans (rfl))
    · exact q_12
    · exact q_13
set_option maxRecDepth 100000 in
set_option maxHeartbeats 4000000 in
theorem c_isRight {E : EV} (hE : Stb E) (a : Nat → Nat) (σ : St) (s0 : Int) (P : St) (hp : MI P ∧ PR P σ ∧ iR s0) : MC E yX11_isRight sX11_isRight [.ref (a 0), .int (zI s0)] (mW a σ) (fun v w => ∃ σ2 : St, v = some (.int (zI ((sp_isRight P s0).2.1))) ∧ w = mW a σ2 ∧ (σ2 1 29 = (sp_isRight P s0).1) ∧ (PR (sp_isRight P s0).2.2 σ2)) := by
  refine MC.of hE [some (.ref (a 0)), some (.int (zI s0)), none, none, none] 3 rfl rfl rfl (by simp [Value.category]) (Nat.le_of_ble_eq_true rfl) (fun K hK hR => ?_)
  obtain ⟨hM, hP, hp⟩ := hp
  have e0 := hP 0 (by decide) (by decide)
  have f0 : ∀ i, σ 0 i = P 0 i := fun i => by rw [e0]
  have mR := hM.1
  have mC := hM.2.1
  have mN := hM.2.2.1
  have mp := hM.pts
  have ma := hM.als
  have gR := f0 0
  have gC := f0 1
  have gN := f0 2
  have hr := hp
  obtain ⟨r0a, r0b⟩ : iR s0 := hp
  have loop_33 : ∀ (n0 : Nat) (v : Int) (b : Bool) (σ1 : St), (pt P - v).toNat = n0 → (inS P s0) → (PR P σ1) → (σ1 1 29 = 0) → (Dealt P (P 0 11) (P 0 12) σ1) → (Lived P (P 0 11) (P 0 12) σ1) → (0 ≤ v ∧ v ≤ pt P) → (b = true ↔ ∀ p, 0 ≤ p → p < v → (∀ u, 0 ≤ u → u < p → ¬ (plc P s0 p = plc P s0 u ∧ cf P (P 0 11) (P 0 12) (s0 * pt P + p) (s0 * pt P + u) = true))) → V K sX11_isRight 0 0 (mW a σ1) [some (.ref (a 0)), some (.int (zI s0)), some (.int (zI (bz b))), some (.int (zI (64 * s0 + v))), none] [] 33 := by
    intro n0
    induction n0 using Nat.strongRecOn with
    | _ n0 ih_33 =>
    intro v b σ1 hm_33 hin hP1 hT hD hL hv hb
    have g1R : σ1 0 0 = P 0 0 := by rw [hP1 0 (by decide) (by decide)]
    have g1C : σ1 0 1 = P 0 1 := by rw [hP1 0 (by decide) (by decide)]
    have loop_57 : ∀ (n0 : Nat) (u : Int) (d : Bool), (v - u).toNat = n0 → (v < pt P) → (0 ≤ u ∧ u ≤ v) → (d = true ↔ (b = true ∧ ∀ p, 0 ≤ p → p < u → ¬ (plc P s0 v = plc P s0 p ∧ cf P (P 0 11) (P 0 12) (s0 * pt P + v) (s0 * pt P + p) = true))) → V K sX11_isRight 0 0 (mW a σ1) [some (.ref (a 0)), some (.int (zI s0)), some (.int (zI (bz d))), some (.int (zI (64 * s0 + v))), some (.int (zI (64 * s0 + u)))] [] 57 := by
      intro n0
      induction n0 using Nat.strongRecOn with
      | _ n0 ih_57 =>
      intro u d hm_57 hvn hu hd
      refine V_iload dX11_isRight_57 rfl ?_
      refine V_iload_n dX11_isRight_59 rfl ?_
      refine V_icmp_ge (tgt := 103) dX11_isRight_60 (by decide) ⟨⟨by omega, by omega⟩, ⟨by omega, by omega⟩⟩ (fun c_1 => ?_) (fun c_1 => ?_)
      · refine V_iinc (L' := [some (.ref (a 0)), some (.int (zI s0)), some (.int (zI (bz d))), some (.int (zI ((64 * s0 + v) + 1))), some (.int (zI (64 * s0 + u)))]) dX11_isRight_103 (by decide) rfl rfl ?_
        refine V_goto (tgt := 33) dX11_isRight_106 (by decide) ?_
        refine V_locE (L' := [some (.ref (a 0)), some (.int (zI s0)), some (.int (zI (bz d))), some (.int (zI (64 * s0 + (v + 1)))), some (.int (zI (64 * s0 + u)))]) (by rw [Int.add_assoc]) ?_
        refine V_mask (L' := [some (.ref (a 0)), some (.int (zI s0)), some (.int (zI (bz d))), some (.int (zI (64 * s0 + (v + 1)))), none]) [true, true, true, true, false] rfl ?_
        refine ih_33 _ (by omega) (v + 1) d σ1 rfl ?_ ?_ ?_ ?_ ?_ ?_ ?_
        · exact hin
        · exact hP1
        · exact hT
        · exact hD
        · exact hL
        · omega
        · exact ball_s hb hv.1 (hd.trans (and_congr Iff.rfl ⟨fun h p x y => h p x (by omega), fun h p x y => h p x (by omega)⟩))
      · refine V_iload_n dX11_isRight_63 rfl ?_
        refine V_ifb_eq (tgt := 95) dX11_isRight_64 (by decide) (fun c_2 => ?_) (fun c_2 => ?_)
        · refine V_iconst dX11_isRight_95 ?_
          refine V_istore_n (L' := [some (.ref (a 0)), some (.int (zI s0)), some (.int (zI 0)), some (.int (zI (64 * s0 + v))), some (.int (zI (64 * s0 + u)))]) dX11_isRight_96 (by decide) rfl ?_
          refine V_iinc (L' := [some (.ref (a 0)), some (.int (zI s0)), some (.int (zI 0)), some (.int (zI (64 * s0 + v))), some (.int (zI ((64 * s0 + u) + 1)))]) dX11_isRight_97 (by decide) rfl rfl ?_
          refine V_goto (tgt := 57) dX11_isRight_100 (by decide) ?_
          refine V_locE (L' := [some (.ref (a 0)), some (.int (zI s0)), some (.int (zI 0)), some (.int (zI (64 * s0 + v))), some (.int (zI (64 * s0 + (u + 1))))]) (by rw [Int.add_assoc]) ?_
          refine ih_57 _ (by omega) (u + 1) false rfl ?_ ?_ ?_
          · omega
          · omega
          · exact band_s hd hu.1 (by rw [c_2]; simp)
        · have kv := comp_eq hM hin.1 hin.2 hv.1 hvn
          have ku := comp_eq hM hin.1 hin.2 hu.1 (show u < pt P by omega)
          have pbv := plc_b hM hin.1 (show s0 < 4 by omega) hv.1 hvn
          have pbu := plc_b hM hin.1 (show s0 < 4 by omega) hu.1 (show u < pt P by omega)
          refine V_aload_n dX11_isRight_67 rfl ?_
          refine V_iload_n dX11_isRight_68 rfl ?_
          refine V_callVF (As := [.int (zI (64 * s0 + v))]) (b := a 0) (hb := (show (mW a σ1)[0]? = some (a 0, .inr (10, mF a σ1)) from rfl)) (hc := (show vwCl[10]? = some (RX11, TX11, 30) from rfl)) hK (c_place hE a σ1 (64 * s0 + v) P (s0 * pt P + v) ⟨hM, hP1, kv.1, kv.2.2.2.symm⟩) mokX11_place w1410 w1412 wps3_8 ⟨Nat.le_of_ble_eq_true rfl, Nat.le_of_ble_eq_true rfl⟩ rfl (Nat.le_of_ble_eq_true rfl) ⟨Nat.le_refl _, Nat.le_refl _⟩ dX11_isRight_69 (fun v w p_3 => ?_)
          obtain ⟨rfl, rfl⟩ := p_3
          show V K sX11_isRight 0 0 (mW a σ1) _ [.int (zI (plc P ((s0 * pt P + v) / pt P) ((s0 * pt P + v) % pt P)))] 72
          refine V_eqT (y := zI (plc P s0 v)) (by rw [kv.2.1, kv.2.2.1]) ?_
          refine V_aload_n dX11_isRight_72 rfl ?_
          refine V_iload dX11_isRight_73 rfl ?_
          refine V_callVF (As := [.int (zI (64 * s0 + u))]) (b := a 0) (hb := (show (mW a σ1)[0]? = some (a 0, .inr (10, mF a σ1)) from rfl)) (hc := (show vwCl[10]? = some (RX11, TX11, 30) from rfl)) hK (c_place hE a σ1 (64 * s0 + u) P (s0 * pt P + u) ⟨hM, hP1, ku.1, ku.2.2.2.symm⟩) mokX11_place w1410 w1412 wps3_8 ⟨Nat.le_of_ble_eq_true rfl, Nat.le_of_ble_eq_true rfl⟩ rfl (Nat.le_of_ble_eq_true rfl) ⟨Nat.le_refl _, Nat.le_refl _⟩ dX11_isRight_75 (fun v w p_4 => ?_)
          obtain ⟨rfl, rfl⟩ := p_4
          show V K sX11_isRight 0 0 (mW a σ1) _ [.int (zI (plc P ((s0 * pt P + u) / pt P) ((s0 * pt P + u) % pt P))), .int (zI (plc P s0 v))] 78
          refine V_eqT (y := zI (plc P s0 u)) (by rw [ku.2.1, ku.2.2.1]) ?_
          refine V_icmp_ne (tgt := 91) dX11_isRight_78 (by decide) ⟨⟨by omega, by omega⟩, ⟨by omega, by omega⟩⟩ (fun c_5 => ?_) (fun c_5 => ?_)
          · refine V_iconst dX11_isRight_91 ?_
            refine V_goto (tgt := 96) dX11_isRight_92 (by decide) ?_
            refine V_istore_n (L' := [some (.ref (a 0)), some (.int (zI s0)), some (.int (zI 1)), some (.int (zI (64 * s0 + v))), some (.int (zI (64 * s0 + u)))]) dX11_isRight_96 (by decide) rfl ?_
            refine V_iinc (L' := [some (.ref (a 0)), some (.int (zI s0)), some (.int (zI 1)), some (.int (zI (64 * s0 + v))), some (.int (zI ((64 * s0 + u) + 1)))]) dX11_isRight_97 (by decide) rfl rfl ?_
            refine V_goto (tgt := 57) dX11_isRight_100 (by decide) ?_
            refine V_locE (L' := [some (.ref (a 0)), some (.int (zI s0)), some (.int (zI 1)), some (.int (zI (64 * s0 + v))), some (.int (zI (64 * s0 + (u + 1))))]) (by rw [Int.add_assoc]) ?_
            refine ih_57 _ (by omega) (u + 1) true rfl ?_ ?_ ?_
            · omega
            · omega
            · exact band_s hd hu.1 ⟨fun _ => ⟨c_2, fun h => c_5 h.1⟩, fun _ => rfl⟩
          · refine V_aload_n dX11_isRight_81 rfl ?_
            refine V_iload_n dX11_isRight_82 rfl ?_
            refine V_iload dX11_isRight_83 rfl ?_
            refine V_callVF (As := [.int (zI (64 * s0 + v)), .int (zI (64 * s0 + u))]) (b := a 0) (hb := (show (mW a σ1)[0]? = some (a 0, .inr (10, mF a σ1)) from rfl)) (hc := (show vwCl[10]? = some (RX11, TX11, 30) from rfl)) hK (c_areInConflict hE a σ1 (64 * s0 + v) (64 * s0 + u) P (P 0 11) (P 0 12) (s0 * pt P + v) (s0 * pt P + u) ⟨hM, hP1, hD, hL, kv.1, ku.1, kv.2.2.2.symm, ku.2.2.2.symm⟩) mokX11_areInConflict w1327 w1329 wps2_13 ⟨Nat.le_of_ble_eq_true rfl, Nat.le_of_ble_eq_true rfl⟩ rfl (Nat.le_of_ble_eq_true rfl) ⟨Nat.le_refl _, Nat.le_refl _⟩ dX11_isRight_85 (fun v w p_6 => ?_)
            obtain ⟨rfl, rfl⟩ := p_6
            show V K sX11_isRight 0 0 (mW a σ1) _ [.int (zI (bz (cf P (P 0 11) (P 0 12) (s0 * pt P + v) (s0 * pt P + u))))] 88
            refine V_ifb_ne (tgt := 95) dX11_isRight_88 (by decide) (fun c_7 => ?_) (fun c_7 => ?_)
            · refine V_iconst dX11_isRight_95 ?_
              refine V_istore_n (L' := [some (.ref (a 0)), some (.int (zI s0)), some (.int (zI 0)), some (.int (zI (64 * s0 + v))), some (.int (zI (64 * s0 + u)))]) dX11_isRight_96 (by decide) rfl ?_
              refine V_iinc (L' := [some (.ref (a 0)), some (.int (zI s0)), some (.int (zI 0)), some (.int (zI (64 * s0 + v))), some (.int (zI ((64 * s0 + u) + 1)))]) dX11_isRight_97 (by decide) rfl rfl ?_
              refine V_goto (tgt := 57) dX11_isRight_100 (by decide) ?_
              refine V_locE (L' := [some (.ref (a 0)), some (.int (zI s0)), some (.int (zI 0)), some (.int (zI (64 * s0 + v))), some (.int (zI (64 * s0 + (u + 1))))]) (by rw [Int.add_assoc]) ?_
              refine ih_57 _ (by omega) (u + 1) false rfl ?_ ?_ ?_
              · omega
              · omega
              · exact band_s hd hu.1 ⟨fun h => (nomatch h), fun h => absurd ⟨c_5, c_7⟩ h.2⟩
            · refine V_iconst dX11_isRight_91 ?_
              refine V_goto (tgt := 96) dX11_isRight_92 (by decide) ?_
              refine V_istore_n (L' := [some (.ref (a 0)), some (.int (zI s0)), some (.int (zI 1)), some (.int (zI (64 * s0 + v))), some (.int (zI (64 * s0 + u)))]) dX11_isRight_96 (by decide) rfl ?_
              refine V_iinc (L' := [some (.ref (a 0)), some (.int (zI s0)), some (.int (zI 1)), some (.int (zI (64 * s0 + v))), some (.int (zI ((64 * s0 + u) + 1)))]) dX11_isRight_97 (by decide) rfl rfl ?_
              refine V_goto (tgt := 57) dX11_isRight_100 (by decide) ?_
              refine V_locE (L' := [some (.ref (a 0)), some (.int (zI s0)), some (.int (zI 1)), some (.int (zI (64 * s0 + v))), some (.int (zI (64 * s0 + (u + 1))))]) (by rw [Int.add_assoc]) ?_
              refine ih_57 _ (by omega) (u + 1) true rfl ?_ ?_ ?_
              · omega
              · omega
              · exact band_s hd hu.1 ⟨fun _ => ⟨c_2, fun h => by rw [c_7] at h; cases h.2⟩, fun _ => rfl⟩
    have seg_57 : ∀ (u : Int) (d : Bool), (v < pt P) → (0 ≤ u ∧ u ≤ v) → (d = true ↔ (b = true ∧ ∀ p, 0 ≤ p → p < u → ¬ (plc P s0 v = plc P s0 p ∧ cf P (P 0 11) (P 0 12) (s0 * pt P + v) (s0 * pt P + p) = true))) → V K sX11_isRight 0 0 (mW a σ1) [some (.ref (a 0)), some (.int (zI s0)), some (.int (zI (bz d))), some (.int (zI (64 * s0 + v))), some (.int (zI (64 * s0 + u)))] [] 57 := fun u d hvn hu hd => loop_57 _ u d rfl hvn hu hd
    refine V_iload_n dX11_isRight_33 rfl ?_
    refine V_bipush dX11_isRight_34 (by decide) ?_
    refine V_iload_n dX11_isRight_36 rfl ?_
    refine V_imul dX11_isRight_37 ?_
    refine V_aload_n dX11_isRight_38 rfl ?_
    refine mg_rows rfl dX11_isRight_39 ?_
    refine V_aload_n dX11_isRight_42 rfl ?_
    refine mg_columns rfl dX11_isRight_43 ?_
    refine V_imul dX11_isRight_46 ?_
    refine V_iadd dX11_isRight_47 ?_
    refine V_eqT (y := zI (64 * s0 + pt P)) (by rw [g1R, g1C]; rfl) ?_
    refine V_icmp_ge (tgt := 109) dX11_isRight_48 (by decide) ⟨⟨by omega, by omega⟩, ⟨by omega, by omega⟩⟩ (fun c_8 => ?_) (fun c_8 => ?_)
    · refine V_iload_n dX11_isRight_109 rfl ?_
      refine V_zret hR rfl (Nat.le_refl _) (Nat.le_refl _) dX11_isRight_110 ?_
      exact pub (gd_t hin) (bzE (dcd_of (hb.trans ((show _ ↔ _ from ⟨fun h p x y => h p x (by omega), fun h p x y => h p x (by omega)⟩).trans wR_iff.symm)))) hT hP1
    · refine V_bipush dX11_isRight_51 (by decide) ?_
      refine V_iload_n dX11_isRight_53 rfl ?_
      refine V_imul dX11_isRight_54 ?_
      refine V_eqT (y := zI (64 * s0 + 0)) (by rw [Int.add_zero]) ?_
      refine V_istore (L' := [some (.ref (a 0)), some (.int (zI s0)), some (.int (zI (bz b))), some (.int (zI (64 * s0 + v))), some (.int (zI (64 * s0 + 0)))]) dX11_isRight_55 (by decide) rfl ?_
      refine seg_57 0 b ?_ ?_ ?_
      · omega
      · omega
      · exact ⟨fun h => ⟨h, fun p x y => absurd y (by omega)⟩, And.left⟩
  have seg_33 : ∀ (v : Int) (b : Bool) (σ1 : St), (inS P s0) → (PR P σ1) → (σ1 1 29 = 0) → (Dealt P (P 0 11) (P 0 12) σ1) → (Lived P (P 0 11) (P 0 12) σ1) → (0 ≤ v ∧ v ≤ pt P) → (b = true ↔ ∀ p, 0 ≤ p → p < v → (∀ u, 0 ≤ u → u < p → ¬ (plc P s0 p = plc P s0 u ∧ cf P (P 0 11) (P 0 12) (s0 * pt P + p) (s0 * pt P + u) = true))) → V K sX11_isRight 0 0 (mW a σ1) [some (.ref (a 0)), some (.int (zI s0)), some (.int (zI (bz b))), some (.int (zI (64 * s0 + v))), none] [] 33 := fun v b σ1 hin hP1 hT hD hL hv hb => loop_33 _ v b σ1 rfl hin hP1 hT hD hL hv hb
  refine V_aload_n dX11_isRight_0 rfl ?_
  refine V_aload_n dX11_isRight_1 rfl ?_
  refine V_iload_n dX11_isRight_2 rfl ?_
  refine V_callVF (As := [.int (zI s0)]) (b := a 0) (hb := (show (mW a σ)[0]? = some (a 0, .inr (10, mF a σ)) from rfl)) (hc := (show vwCl[10]? = some (RX11, TX11, 30) from rfl)) hK (c_is hE a σ s0 P ⟨hM, hP, by (try refine ⟨?_, ?_⟩) <;> omega⟩) mokX11_is w1180 w1182 wps1_10 ⟨Nat.le_of_ble_eq_true rfl, Nat.le_of_ble_eq_true rfl⟩ rfl (Nat.le_of_ble_eq_true rfl) ⟨Nat.le_refl _, Nat.le_refl _⟩ dX11_isRight_3 (fun v w p_9 => ?_)
  obtain ⟨rfl, rfl⟩ := p_9
  show V K sX11_isRight 0 0 (mW a σ) _ [.int (zI (bz (decide (0 ≤ s0 ∧ s0 < P 0 2)))), .ref (a 0)] 6
  refine V_ifd_eq (tgt := 13) dX11_isRight_6 (by decide) (fun c_10 => ?_) (fun c_10 => ?_)
  · refine V_iconst dX11_isRight_13 ?_
    refine V_callVF (As := [.int (zI 1)]) (b := a 0) (hb := (show (mW a σ)[0]? = some (a 0, .inr (10, mF a σ)) from rfl)) (hc := (show vwCl[10]? = some (RX11, TX11, 30) from rfl)) hK (c_fails hE a σ 1 ⟨by omega, by omega⟩) mokX11_fails w1172 w1174 wps1_9 ⟨Nat.le_of_ble_eq_true rfl, Nat.le_of_ble_eq_true rfl⟩ rfl (Nat.le_of_ble_eq_true rfl) ⟨Nat.le_refl _, Nat.le_refl _⟩ dX11_isRight_14 (fun v w p_11 => ?_)
    obtain ⟨rfl, rfl⟩ := p_11
    show V K sX11_isRight 0 0 (mW a (up σ 1 29 1)) _ [.int (zI (bz (decide (0 < 1))))] 17
    refine V_ifd_eq (tgt := 22) dX11_isRight_17 (by decide) (fun h => absurd (by decide) h) (fun _ => ?_)
    refine V_iconst dX11_isRight_20 ?_
    show V K sX11_isRight 0 0 (mW a (up σ 1 29 1)) _ [.int (zI (bz false))] 21
    refine V_zret hR rfl (Nat.le_refl _) (Nat.le_refl _) dX11_isRight_21 ?_
    exact pub (gd_f c_10) rfl rfl ((hP).up (by decide))
  · refine V_iconst dX11_isRight_9 ?_
    refine V_goto (tgt := 14) dX11_isRight_10 (by decide) ?_
    refine V_callVF (As := [.int (zI 0)]) (b := a 0) (hb := (show (mW a σ)[0]? = some (a 0, .inr (10, mF a σ)) from rfl)) (hc := (show vwCl[10]? = some (RX11, TX11, 30) from rfl)) hK (c_fails hE a σ 0 ⟨by omega, by omega⟩) mokX11_fails w1172 w1174 wps1_9 ⟨Nat.le_of_ble_eq_true rfl, Nat.le_of_ble_eq_true rfl⟩ rfl (Nat.le_of_ble_eq_true rfl) ⟨Nat.le_refl _, Nat.le_refl _⟩ dX11_isRight_14 (fun v w p_13 => ?_)
    obtain ⟨rfl, rfl⟩ := p_13
    show V K sX11_isRight 0 0 (mW a (up σ 1 29 0)) _ [.int (zI (bz (decide (0 < 0))))] 17
    refine V_ifd_eq (tgt := 22) dX11_isRight_17 (by decide) (fun _ => ?_) (fun h => absurd h (by decide))
    refine V_aload_n dX11_isRight_22 rfl ?_
    refine V_callVF (As := []) (b := a 0) (hb := (show (mW a (up σ 1 29 0))[0]? = some (a 0, .inr (10, mF a (up σ 1 29 0))) from rfl)) (hc := (show vwCl[10]? = some (RX11, TX11, 30) from rfl)) hK (c_finds hE a (up σ 1 29 0) P ⟨hM, ((hP).up (by decide))⟩) mokX11_finds w1295 w1297 wps2_9 ⟨Nat.le_of_ble_eq_true rfl, Nat.le_of_ble_eq_true rfl⟩ rfl (Nat.le_of_ble_eq_true rfl) ⟨Nat.le_refl _, Nat.le_refl _⟩ dX11_isRight_23 (fun v w p_15 => ?_)
    obtain ⟨σ_16, rfl, rfl, q_17, q_18, q_19⟩ := p_15
    show V K sX11_isRight 0 0 (mW a σ_16) _ [] 26
    refine V_iconst dX11_isRight_26 ?_
    refine V_istore_n (L' := [some (.ref (a 0)), some (.int (zI s0)), some (.int (zI 1)), none, none]) dX11_isRight_27 (by decide) rfl ?_
    refine V_bipush dX11_isRight_28 (by decide) ?_
    refine V_iload_n dX11_isRight_30 rfl ?_
    refine V_imul dX11_isRight_31 ?_
    refine V_eqT (y := zI (64 * s0 + 0)) (by rw [Int.add_zero]) ?_
    refine V_istore_n (L' := [some (.ref (a 0)), some (.int (zI s0)), some (.int (zI 1)), some (.int (zI (64 * s0 + 0))), none]) dX11_isRight_32 (by decide) rfl ?_
    refine seg_33 0 true σ_16 ?_ ?_ ?_ ?_ ?_ ?_ ?_
    · exact c_10
    · exact ((((hP).up (by decide))).fr q_17 (by decide))
    · exact ((congrFun (q_17 1 (by decide)) 29).trans (rfl))
    · exact q_18
    · exact q_19
    · omega
    · exact ball_0
set_option maxRecDepth 100000 in
set_option maxHeartbeats 4000000 in
theorem c_leastJointRest {E : EV} (hE : Stb E) (a : Nat → Nat) (σ : St) (s0 : Int) (o0 : Int) (P : St) (hp : MI P ∧ PR P σ ∧ iR s0 ∧ iR o0) : MC E yX11_leastJointRest sX11_leastJointRest [.ref (a 0), .int (zI s0), .int (zI o0)] (mW a σ) (fun v w => ∃ σ2 : St, v = some (.int (zI ((sp_leastJointRest P s0 o0).2.1))) ∧ w = mW a σ2 ∧ (σ2 1 29 = (sp_leastJointRest P s0 o0).1) ∧ (PR (sp_leastJointRest P s0 o0).2.2 σ2)) := by
  refine MC.of hE [some (.ref (a 0)), some (.int (zI s0)), some (.int (zI o0)), none] 1 rfl rfl rfl (by simp [Value.category]) (Nat.le_of_ble_eq_true rfl) (fun K hK hR => ?_)
  obtain ⟨hM, hP, hp⟩ := hp
  have e0 := hP 0 (by decide) (by decide)
  have f0 : ∀ i, σ 0 i = P 0 i := fun i => by rw [e0]
  have mR := hM.1
  have mC := hM.2.1
  have mN := hM.2.2.1
  have mp := hM.pts
  have ma := hM.als
  have gR := f0 0
  have gC := f0 1
  have gN := f0 2
  have hr := hp
  obtain ⟨r0a, r0b⟩ : iR s0 := hp.1
  obtain ⟨r1a, r1b⟩ : iR o0 := hp.2
  have loop_75 : ∀ (n0 : Nat) (m : Int) (σ1 : St), (100 - m).toNat = n0 → (inS P s0 ∧ inS P o0) → (PR P σ1) → (σ1 1 29 = 0) → (1 ≤ m ∧ m ≤ 100) → (∀ i, 0 ≤ i → i < 64 → σ1 25 i = bz (dcd (JQ P (P 0 11) (P 0 12) s0 o0 i))) → (∀ j, 1 ≤ j → j < m → ¬ jOK P (P 0 11) (P 0 12) s0 o0 j) → V K sX11_leastJointRest 0 0 (mW a σ1) [some (.ref (a 0)), some (.int (zI s0)), some (.int (zI o0)), some (.int (zI m))] [] 75 := by
    intro n0
    induction n0 using Nat.strongRecOn with
    | _ n0 ih_75 =>
    intro m σ1 hm_75 hin hP1 hT hm hA hn
    refine V_iload_n dX11_leastJointRest_75 rfl ?_
    refine V_bipush dX11_leastJointRest_76 (by decide) ?_
    refine V_icmp_gt (tgt := 95) dX11_leastJointRest_78 (by decide) ⟨⟨by omega, by omega⟩, ⟨by omega, by omega⟩⟩ (fun c_1 => ?_) (fun c_1 => ?_)
    · refine V_iload_n dX11_leastJointRest_95 rfl ?_
      refine V_bipush dX11_leastJointRest_96 (by decide) ?_
      refine V_icmp_le (tgt := 105) dX11_leastJointRest_98 (by decide) ⟨⟨by omega, by omega⟩, ⟨by omega, by omega⟩⟩ (fun c_2 => ?_) (fun c_2 => ?_)
      · omega
      · refine V_iconst dX11_leastJointRest_101 ?_
        refine V_goto (tgt := 106) dX11_leastJointRest_102 (by decide) ?_
        refine V_iret hR rfl (Nat.le_refl _) (Nat.le_refl _) dX11_leastJointRest_106 ?_
        exact pub (gd_t hin) (ziE (ljr_no (fun j x y => hn j x (by omega)))) hT hP1
    · refine V_aload_n dX11_leastJointRest_81 rfl ?_
      refine V_iload_n dX11_leastJointRest_82 rfl ?_
      refine V_callVF (As := [.int (zI m)]) (b := a 0) (hb := (show (mW a σ1)[0]? = some (a 0, .inr (10, mF a σ1)) from rfl)) (hc := (show vwCl[10]? = some (RX11, TX11, 30) from rfl)) hK (c_divides hE a σ1 m P (JQ P (P 0 11) (P 0 12) s0 o0) ⟨hM, hP1, (by omega), hA⟩) mokX11_divides w1455 w1457 wps3_11 ⟨Nat.le_of_ble_eq_true rfl, Nat.le_of_ble_eq_true rfl⟩ rfl (Nat.le_of_ble_eq_true rfl) ⟨Nat.le_refl _, Nat.le_refl _⟩ dX11_leastJointRest_83 (fun v w p_3 => ?_)
      obtain ⟨rfl, rfl⟩ := p_3
      show V K sX11_leastJointRest 0 0 (mW a σ1) _ [.int (zI (bz (dcd (EXD (JQ P (P 0 11) (P 0 12) s0 o0) m 64))))] 86
      refine V_ifc_eq (tgt := 95) dX11_leastJointRest_86 (by decide) (fun c_4 => ?_) (fun c_4 => ?_)
      · refine V_iload_n dX11_leastJointRest_95 rfl ?_
        refine V_bipush dX11_leastJointRest_96 (by decide) ?_
        refine V_icmp_le (tgt := 105) dX11_leastJointRest_98 (by decide) ⟨⟨by omega, by omega⟩, ⟨by omega, by omega⟩⟩ (fun c_5 => ?_) (fun c_5 => ?_)
        · refine V_iload_n dX11_leastJointRest_105 rfl ?_
          refine V_iret hR rfl (Nat.le_refl _) (Nat.le_refl _) dX11_leastJointRest_106 ?_
          exact pub (gd_t hin) (ziE (ljr_yes ⟨hm.1, Classical.byContradiction fun z => c_4 ((jOK_iff hM hm.1).mpr z), hn⟩ (by omega))) hT hP1
        · omega
      · refine V_iinc (L' := [some (.ref (a 0)), some (.int (zI s0)), some (.int (zI o0)), some (.int (zI (m + 1)))]) dX11_leastJointRest_89 (by decide) rfl rfl ?_
        refine V_goto (tgt := 75) dX11_leastJointRest_92 (by decide) ?_
        refine ih_75 _ (by omega) (m + 1) σ1 rfl ?_ ?_ ?_ ?_ ?_ ?_
        · exact hin
        · exact hP1
        · exact hT
        · omega
        · exact hA
        · intro j x y
          by_cases e : j = m
          · rw [e]; exact (jOK_iff hM hm.1).mp c_4
          · exact hn j x (by omega)
  have seg_75 : ∀ (m : Int) (σ1 : St), (inS P s0 ∧ inS P o0) → (PR P σ1) → (σ1 1 29 = 0) → (1 ≤ m ∧ m ≤ 100) → (∀ i, 0 ≤ i → i < 64 → σ1 25 i = bz (dcd (JQ P (P 0 11) (P 0 12) s0 o0 i))) → (∀ j, 1 ≤ j → j < m → ¬ jOK P (P 0 11) (P 0 12) s0 o0 j) → V K sX11_leastJointRest 0 0 (mW a σ1) [some (.ref (a 0)), some (.int (zI s0)), some (.int (zI o0)), some (.int (zI m))] [] 75 := fun m σ1 hin hP1 hT hm hA hn => loop_75 _ m σ1 rfl hin hP1 hT hm hA hn
  have loop_36 : ∀ (n0 : Nat) (k : Int) (σ1 : St), (64 - k).toNat = n0 → (inS P s0 ∧ inS P o0) → (PR P σ1) → (σ1 1 29 = 0) → (Dealt P (P 0 11) (P 0 12) σ1) → (Lived P (P 0 11) (P 0 12) σ1) → (0 ≤ k ∧ k ≤ 64) → (∀ i, 0 ≤ i → i < k → σ1 25 i = 0) → V K sX11_leastJointRest 0 0 (mW a σ1) [some (.ref (a 0)), some (.int (zI s0)), some (.int (zI o0)), some (.int (zI k))] [] 36 := by
    intro n0
    induction n0 using Nat.strongRecOn with
    | _ n0 ih_36 =>
    intro k σ1 hm_36 hin hP1 hT hD hL hk hz
    refine V_iload_n dX11_leastJointRest_36 rfl ?_
    refine V_bipush dX11_leastJointRest_37 (by decide) ?_
    refine V_icmp_ge (tgt := 55) dX11_leastJointRest_39 (by decide) ⟨⟨by omega, by omega⟩, ⟨by omega, by omega⟩⟩ (fun c_6 => ?_) (fun c_6 => ?_)
    · refine V_aload_n dX11_leastJointRest_55 rfl ?_
      refine V_iload_n dX11_leastJointRest_56 rfl ?_
      refine V_iload_n dX11_leastJointRest_57 rfl ?_
      refine V_callVF (As := [.int (zI s0), .int (zI s0)]) (b := a 0) (hb := (show (mW a σ1)[0]? = some (a 0, .inr (10, mF a σ1)) from rfl)) (hc := (show vwCl[10]? = some (RX11, TX11, 30) from rfl)) hK (c_distances hE a σ1 s0 s0 P (P 0 11) (P 0 12) (fun _ => False) ⟨hM, hP1, hD, hL, hin.1, hin.1, fun i h1 h2 => by rw [hz i h1 (by omega), dcd_f.mpr (fun h => h)]; rfl⟩) mokX11_distances w1451 w1453 wps3_10 ⟨Nat.le_of_ble_eq_true rfl, Nat.le_of_ble_eq_true rfl⟩ rfl (Nat.le_of_ble_eq_true rfl) ⟨Nat.le_refl _, Nat.le_refl _⟩ dX11_leastJointRest_58 (fun v w p_7 => ?_)
      obtain ⟨σ_8, rfl, rfl, q_9, q_10⟩ := p_7
      show V K sX11_leastJointRest 0 0 (mW a σ_8) _ [] 61
      refine V_aload_n dX11_leastJointRest_61 rfl ?_
      refine V_iload_n dX11_leastJointRest_62 rfl ?_
      refine V_iload_n dX11_leastJointRest_63 rfl ?_
      refine V_callVF (As := [.int (zI o0), .int (zI o0)]) (b := a 0) (hb := (show (mW a σ_8)[0]? = some (a 0, .inr (10, mF a σ_8)) from rfl)) (hc := (show vwCl[10]? = some (RX11, TX11, 30) from rfl)) hK (c_distances hE a σ_8 o0 o0 P (P 0 11) (P 0 12) (fun i => False ∨ AQ P (P 0 11) (P 0 12) s0 s0 i) ⟨hM, ((hP1).fr q_9 (by decide)), hD.of (q_9 17 (by decide)) (q_9 18 (by decide)), hL.of (q_9 19 (by decide)), hin.2, hin.2, q_10⟩) mokX11_distances w1451 w1453 wps3_10 ⟨Nat.le_of_ble_eq_true rfl, Nat.le_of_ble_eq_true rfl⟩ rfl (Nat.le_of_ble_eq_true rfl) ⟨Nat.le_refl _, Nat.le_refl _⟩ dX11_leastJointRest_64 (fun v w p_11 => ?_)
      obtain ⟨σ_12, rfl, rfl, q_13, q_14⟩ := p_11
      show V K sX11_leastJointRest 0 0 (mW a σ_12) _ [] 67
      refine V_aload_n dX11_leastJointRest_67 rfl ?_
      refine V_iload_n dX11_leastJointRest_68 rfl ?_
      refine V_iload_n dX11_leastJointRest_69 rfl ?_
      refine V_callVF (As := [.int (zI s0), .int (zI o0)]) (b := a 0) (hb := (show (mW a σ_12)[0]? = some (a 0, .inr (10, mF a σ_12)) from rfl)) (hc := (show vwCl[10]? = some (RX11, TX11, 30) from rfl)) hK (c_distances hE a σ_12 s0 o0 P (P 0 11) (P 0 12) (fun i => (False ∨ AQ P (P 0 11) (P 0 12) s0 s0 i) ∨ AQ P (P 0 11) (P 0 12) o0 o0 i) ⟨hM, ((((hP1).fr q_9 (by decide))).fr q_13 (by decide)), (hD.of (q_9 17 (by decide)) (q_9 18 (by decide))).of (q_13 17 (by decide)) (q_13 18 (by decide)), (hL.of (q_9 19 (by decide))).of (q_13 19 (by decide)), hin.1, hin.2, q_14⟩) mokX11_distances w1451 w1453 wps3_10 ⟨Nat.le_of_ble_eq_true rfl, Nat.le_of_ble_eq_true rfl⟩ rfl (Nat.le_of_ble_eq_true rfl) ⟨Nat.le_refl _, Nat.le_refl _⟩ dX11_leastJointRest_70 (fun v w p_15 => ?_)
      obtain ⟨σ_16, rfl, rfl, q_17, q_18⟩ := p_15
      show V K sX11_leastJointRest 0 0 (mW a σ_16) _ [] 73
      refine V_iconst dX11_leastJointRest_73 ?_
      refine V_istore_n (L' := [some (.ref (a 0)), some (.int (zI s0)), some (.int (zI o0)), some (.int (zI 1))]) dX11_leastJointRest_74 (by decide) rfl ?_
      refine seg_75 1 σ_16 ?_ ?_ ?_ ?_ ?_ ?_
      · exact hin
      · exact ((((((hP1).fr q_9 (by decide))).fr q_13 (by decide))).fr q_17 (by decide))
      · exact (by rw [q_17 1 (by decide), q_13 1 (by decide), q_9 1 (by decide)]; exact hT)
      · omega
      · exact q_18
      · intro j x y; omega
    · refine V_aload_n dX11_leastJointRest_42 rfl ?_
      refine mg_away rfl dX11_leastJointRest_43 ?_
      refine V_iload_n dX11_leastJointRest_46 rfl ?_
      refine V_iconst dX11_leastJointRest_47 ?_
      refine ms_away ⟨by omega, by omega⟩ (by omega) dX11_leastJointRest_48 ?_
      refine V_iinc (L' := [some (.ref (a 0)), some (.int (zI s0)), some (.int (zI o0)), some (.int (zI (k + 1)))]) dX11_leastJointRest_49 (by decide) rfl rfl ?_
      refine V_goto (tgt := 36) dX11_leastJointRest_52 (by decide) ?_
      refine ih_36 _ (by omega) (k + 1) (up σ1 25 k 0) rfl ?_ ?_ ?_ ?_ ?_ ?_ ?_
      · exact hin
      · exact hP1.up (by decide)
      · exact hT
      · exact hD
      · exact hL
      · omega
      · intro i x y
        rw [up_eq]
        by_cases e : i = k
        · rw [e, fup_eq]
        · rw [fup_ne e]; exact hz i x (by omega)
  have seg_36 : ∀ (k : Int) (σ1 : St), (inS P s0 ∧ inS P o0) → (PR P σ1) → (σ1 1 29 = 0) → (Dealt P (P 0 11) (P 0 12) σ1) → (Lived P (P 0 11) (P 0 12) σ1) → (0 ≤ k ∧ k ≤ 64) → (∀ i, 0 ≤ i → i < k → σ1 25 i = 0) → V K sX11_leastJointRest 0 0 (mW a σ1) [some (.ref (a 0)), some (.int (zI s0)), some (.int (zI o0)), some (.int (zI k))] [] 36 := fun k σ1 hin hP1 hT hD hL hk hz => loop_36 _ k σ1 rfl hin hP1 hT hD hL hk hz
  refine V_aload_n dX11_leastJointRest_0 rfl ?_
  refine V_aload_n dX11_leastJointRest_1 rfl ?_
  refine V_iload_n dX11_leastJointRest_2 rfl ?_
  refine V_callVF (As := [.int (zI s0)]) (b := a 0) (hb := (show (mW a σ)[0]? = some (a 0, .inr (10, mF a σ)) from rfl)) (hc := (show vwCl[10]? = some (RX11, TX11, 30) from rfl)) hK (c_is hE a σ s0 P ⟨hM, hP, by (try refine ⟨?_, ?_⟩) <;> omega⟩) mokX11_is w1180 w1182 wps1_10 ⟨Nat.le_of_ble_eq_true rfl, Nat.le_of_ble_eq_true rfl⟩ rfl (Nat.le_of_ble_eq_true rfl) ⟨Nat.le_refl _, Nat.le_refl _⟩ dX11_leastJointRest_3 (fun v w p_19 => ?_)
  obtain ⟨rfl, rfl⟩ := p_19
  show V K sX11_leastJointRest 0 0 (mW a σ) _ [.int (zI (bz (decide (0 ≤ s0 ∧ s0 < P 0 2)))), .ref (a 0)] 6
  refine V_ifd_eq (tgt := 21) dX11_leastJointRest_6 (by decide) (fun c_20 => ?_) (fun c_20 => ?_)
  · refine V_iconst dX11_leastJointRest_21 ?_
    refine V_callVF (As := [.int (zI 1)]) (b := a 0) (hb := (show (mW a σ)[0]? = some (a 0, .inr (10, mF a σ)) from rfl)) (hc := (show vwCl[10]? = some (RX11, TX11, 30) from rfl)) hK (c_fails hE a σ 1 ⟨by omega, by omega⟩) mokX11_fails w1172 w1174 wps1_9 ⟨Nat.le_of_ble_eq_true rfl, Nat.le_of_ble_eq_true rfl⟩ rfl (Nat.le_of_ble_eq_true rfl) ⟨Nat.le_refl _, Nat.le_refl _⟩ dX11_leastJointRest_22 (fun v w p_21 => ?_)
    obtain ⟨rfl, rfl⟩ := p_21
    show V K sX11_leastJointRest 0 0 (mW a (up σ 1 29 1)) _ [.int (zI (bz (decide (0 < 1))))] 25
    refine V_ifd_eq (tgt := 30) dX11_leastJointRest_25 (by decide) (fun h => absurd (by decide) h) (fun _ => ?_)
    refine V_iconst dX11_leastJointRest_28 ?_
    refine V_iret hR rfl (Nat.le_refl _) (Nat.le_refl _) dX11_leastJointRest_29 ?_
    exact pub (gd_f (fun h => c_20 h.1)) rfl rfl ((hP).up (by decide))
  · refine V_aload_n dX11_leastJointRest_9 rfl ?_
    refine V_iload_n dX11_leastJointRest_10 rfl ?_
    refine V_callVF (As := [.int (zI o0)]) (b := a 0) (hb := (show (mW a σ)[0]? = some (a 0, .inr (10, mF a σ)) from rfl)) (hc := (show vwCl[10]? = some (RX11, TX11, 30) from rfl)) hK (c_is hE a σ o0 P ⟨hM, hP, by (try refine ⟨?_, ?_⟩) <;> omega⟩) mokX11_is w1180 w1182 wps1_10 ⟨Nat.le_of_ble_eq_true rfl, Nat.le_of_ble_eq_true rfl⟩ rfl (Nat.le_of_ble_eq_true rfl) ⟨Nat.le_refl _, Nat.le_refl _⟩ dX11_leastJointRest_11 (fun v w p_23 => ?_)
    obtain ⟨rfl, rfl⟩ := p_23
    show V K sX11_leastJointRest 0 0 (mW a σ) _ [.int (zI (bz (decide (0 ≤ o0 ∧ o0 < P 0 2)))), .ref (a 0)] 14
    refine V_ifd_eq (tgt := 21) dX11_leastJointRest_14 (by decide) (fun c_24 => ?_) (fun c_24 => ?_)
    · refine V_iconst dX11_leastJointRest_21 ?_
      refine V_callVF (As := [.int (zI 1)]) (b := a 0) (hb := (show (mW a σ)[0]? = some (a 0, .inr (10, mF a σ)) from rfl)) (hc := (show vwCl[10]? = some (RX11, TX11, 30) from rfl)) hK (c_fails hE a σ 1 ⟨by omega, by omega⟩) mokX11_fails w1172 w1174 wps1_9 ⟨Nat.le_of_ble_eq_true rfl, Nat.le_of_ble_eq_true rfl⟩ rfl (Nat.le_of_ble_eq_true rfl) ⟨Nat.le_refl _, Nat.le_refl _⟩ dX11_leastJointRest_22 (fun v w p_25 => ?_)
      obtain ⟨rfl, rfl⟩ := p_25
      show V K sX11_leastJointRest 0 0 (mW a (up σ 1 29 1)) _ [.int (zI (bz (decide (0 < 1))))] 25
      refine V_ifd_eq (tgt := 30) dX11_leastJointRest_25 (by decide) (fun h => absurd (by decide) h) (fun _ => ?_)
      refine V_iconst dX11_leastJointRest_28 ?_
      refine V_iret hR rfl (Nat.le_refl _) (Nat.le_refl _) dX11_leastJointRest_29 ?_
      exact pub (gd_f (fun h => c_24 h.2)) rfl rfl ((hP).up (by decide))
    · refine V_iconst dX11_leastJointRest_17 ?_
      refine V_goto (tgt := 22) dX11_leastJointRest_18 (by decide) ?_
      refine V_callVF (As := [.int (zI 0)]) (b := a 0) (hb := (show (mW a σ)[0]? = some (a 0, .inr (10, mF a σ)) from rfl)) (hc := (show vwCl[10]? = some (RX11, TX11, 30) from rfl)) hK (c_fails hE a σ 0 ⟨by omega, by omega⟩) mokX11_fails w1172 w1174 wps1_9 ⟨Nat.le_of_ble_eq_true rfl, Nat.le_of_ble_eq_true rfl⟩ rfl (Nat.le_of_ble_eq_true rfl) ⟨Nat.le_refl _, Nat.le_refl _⟩ dX11_leastJointRest_22 (fun v w p_27 => ?_)
      obtain ⟨rfl, rfl⟩ := p_27
      show V K sX11_leastJointRest 0 0 (mW a (up σ 1 29 0)) _ [.int (zI (bz (decide (0 < 0))))] 25
      refine V_ifd_eq (tgt := 30) dX11_leastJointRest_25 (by decide) (fun _ => ?_) (fun h => absurd h (by decide))
      refine V_aload_n dX11_leastJointRest_30 rfl ?_
      refine V_callVF (As := []) (b := a 0) (hb := (show (mW a (up σ 1 29 0))[0]? = some (a 0, .inr (10, mF a (up σ 1 29 0))) from rfl)) (hc := (show vwCl[10]? = some (RX11, TX11, 30) from rfl)) hK (c_finds hE a (up σ 1 29 0) P ⟨hM, ((hP).up (by decide))⟩) mokX11_finds w1295 w1297 wps2_9 ⟨Nat.le_of_ble_eq_true rfl, Nat.le_of_ble_eq_true rfl⟩ rfl (Nat.le_of_ble_eq_true rfl) ⟨Nat.le_refl _, Nat.le_refl _⟩ dX11_leastJointRest_31 (fun v w p_29 => ?_)
      obtain ⟨σ_30, rfl, rfl, q_31, q_32, q_33⟩ := p_29
      show V K sX11_leastJointRest 0 0 (mW a σ_30) _ [] 34
      refine V_iconst dX11_leastJointRest_34 ?_
      refine V_istore_n (L' := [some (.ref (a 0)), some (.int (zI s0)), some (.int (zI o0)), some (.int (zI 0))]) dX11_leastJointRest_35 (by decide) rfl ?_
      refine seg_36 0 σ_30 ?_ ?_ ?_ ?_ ?_ ?_ ?_
      · exact ⟨c_20, c_24⟩
      · exact ((((hP).up (by decide))).fr q_31 (by decide))
      · exact ((congrFun (q_31 1 (by decide)) 29).trans (rfl))
      · exact q_32
      · exact q_33
      · omega
      · intro i x y; omega
set_option maxRecDepth 100000 in
set_option maxHeartbeats 4000000 in
theorem c_contract {E : EV} (hE : Stb E) (a : Nat → Nat) (σ : St) (P : St) (hp : MI P ∧ PR P σ) : MC E yX11_contract sX11_contract [.ref (a 0)] (mW a σ) (fun v w => ∃ σ2 : St, v = some (.int (zI ((sp_contract P).2.1))) ∧ w = mW a σ2 ∧ (σ2 1 29 = (sp_contract P).1) ∧ (PR (sp_contract P).2.2 σ2)) := by
  refine MC.of hE [some (.ref (a 0)), none, none, none, none] 4 rfl rfl rfl (by simp [Value.category]) (Nat.le_of_ble_eq_true rfl) (fun K hK hR => ?_)
  obtain ⟨hM, hP⟩ := hp
  have e0 := hP 0 (by decide) (by decide)
  have f0 : ∀ i, σ 0 i = P 0 i := fun i => by rw [e0]
  have mR := hM.1
  have mC := hM.2.1
  have mN := hM.2.2.1
  have mp := hM.pts
  have ma := hM.als
  have gR := f0 0
  have gC := f0 1
  have gN := f0 2
  have loop_11 : ∀ (n0 : Nat) (s : Int) (σ1 : St), (P 0 2 - s).toNat = n0 → (0 ≤ s ∧ s ≤ P 0 2) → (PR (ctq P s) σ1) → (MI (ctq P s)) → (Sw P (ctq P s)) → (σ1 1 29 = 0) → (Dealt P (P 0 11) (P 0 12) σ1) → (Lived P (P 0 11) (P 0 12) σ1) → V K sX11_contract 0 0 (mW a σ1) [some (.ref (a 0)), some (.int (zI s)), none, none, none] [] 11 := by
    intro n0
    induction n0 using Nat.strongRecOn with
    | _ n0 ih_11 =>
    intro s σ1 hm_11 hs hPR hMI hSw hT hD hL
    have g1N : σ1 0 2 = P 0 2 := by rw [hPR 0 (by decide) (by decide), hSw.keys]
    have seg_129 : ∀ (Q : St) (σ3 : St), (s < P 0 2) → (Q = cw3 P s (cw2 P s (cw1 P s (kp (ctq P s) s 0 0 0)))) → (PR Q σ3) → (MI Q) → (Sw P Q) → (σ3 1 29 = 0) → (Dealt P (P 0 11) (P 0 12) σ3) → (Lived P (P 0 11) (P 0 12) σ3) → V K sX11_contract 0 0 (mW a σ3) [some (.ref (a 0)), some (.int (zI s)), none, none, none] [] 129 := by
      intro Q σ3 hsn hQ hPR3 hMI3 hSw3 hT3 hD3 hL3
      refine V_iinc (L' := [some (.ref (a 0)), some (.int (zI (s + 1))), none, none, none]) dX11_contract_129 (by decide) rfl rfl ?_
      refine V_goto (tgt := 11) dX11_contract_132 (by decide) ?_
      refine ih_11 _ (by omega) (s + 1) σ3 rfl ?_ ?_ ?_ ?_ ?_ ?_ ?_
      · omega
      · exact (by rw [ctq_s P hs.1, ← hQ]; exact hPR3)
      · exact (by rw [ctq_s P hs.1, ← hQ]; exact hMI3)
      · exact (by rw [ctq_s P hs.1, ← hQ]; exact hSw3)
      · exact hT3
      · exact hD3
      · exact hL3
    have seg_93 : ∀ (Q : St) (σ3 : St), (s < P 0 2) → (Q = cw2 P s (cw1 P s (kp (ctq P s) s 0 0 0))) → (PR Q σ3) → (MI Q) → (Sw P Q) → (σ3 1 29 = 0) → (Dealt P (P 0 11) (P 0 12) σ3) → (Lived P (P 0 11) (P 0 12) σ3) → (Diff P (P 0 11) (P 0 12) s σ3) → V K sX11_contract 0 0 (mW a σ3) [some (.ref (a 0)), some (.int (zI s)), none, none, none] [] 93 := by
      intro Q σ3 hsn hQ hPR3 hMI3 hSw3 hT3 hD3 hL3 hDf3
      refine V_aload_n dX11_contract_93 rfl ?_
      refine V_callVF (As := []) (b := a 0) (hb := (show (mW a σ3)[0]? = some (a 0, .inr (10, mF a σ3)) from rfl)) (hc := (show vwCl[10]? = some (RX11, TX11, 30) from rfl)) hK (c_slant hE a σ3 Q (P 0 11) (P 0 12) s ⟨hMI3, hPR3, by rw [hSw3.Diff]; exact hDf3⟩) mokX11_slant w1386 w1388 wps3_5 ⟨Nat.le_of_ble_eq_true rfl, Nat.le_of_ble_eq_true rfl⟩ rfl (Nat.le_of_ble_eq_true rfl) ⟨Nat.le_refl _, Nat.le_refl _⟩ dX11_contract_94 (fun v w p_1 => ?_)
      obtain ⟨rfl, rfl⟩ := p_1
      show V K sX11_contract 0 0 (mW a σ3) _ [.int (zI (ls Q (P 0 11) (P 0 12) s))] 97
      have sb := ls_spec hM (P 0 11) (P 0 12) s
      have sb1 := sb.1.1
      have sb2 := sb.2
      have zb := sz_b hMI3 hs.1 (show s < 4 by omega)
      refine V_eqT (y := zI (ls P (P 0 11) (P 0 12) s)) (by rw [hSw3.ls]) ?_
      refine V_istore (L' := [some (.ref (a 0)), some (.int (zI s)), none, none, some (.int (zI (ls P (P 0 11) (P 0 12) s)))]) dX11_contract_97 (by decide) rfl ?_
      refine V_iload dX11_contract_99 rfl ?_
      refine V_bipush dX11_contract_101 (by decide) ?_
      refine V_idiv dX11_contract_103 ⟨⟨by omega, by omega⟩, ⟨by omega, by omega⟩, by omega, by omega⟩ ?_
      refine V_aload_n dX11_contract_104 rfl ?_
      refine V_iload_n dX11_contract_105 rfl ?_
      refine V_callVF (As := [.int (zI s)]) (b := a 0) (hb := (show (mW a σ3)[0]? = some (a 0, .inr (10, mF a σ3)) from rfl)) (hc := (show vwCl[10]? = some (RX11, TX11, 30) from rfl)) hK (c_size hE a σ3 s Q ⟨hMI3, hPR3, by omega⟩) mokX11_size w1343 w1345 wps2_15 ⟨Nat.le_of_ble_eq_true rfl, Nat.le_of_ble_eq_true rfl⟩ rfl (Nat.le_of_ble_eq_true rfl) ⟨Nat.le_refl _, Nat.le_refl _⟩ dX11_contract_106 (fun v w p_2 => ?_)
      obtain ⟨rfl, rfl⟩ := p_2
      show V K sX11_contract 0 0 (mW a σ3) _ [.int (zI (sz Q s)), .int (zI ((ls P (P 0 11) (P 0 12) s) / 10))] 109
      refine V_icmp_ge (tgt := 129) dX11_contract_109 (by decide) ⟨⟨by omega, by omega⟩, ⟨by omega, by omega⟩⟩ (fun c_3 => ?_) (fun c_3 => ?_)
      · refine V_mask (L' := [some (.ref (a 0)), some (.int (zI s)), none, none, none]) [true, true, false, false, false] rfl ?_
        refine seg_129 Q σ3 ?_ ?_ ?_ ?_ ?_ ?_ ?_ ?_
        · omega
        · rw [cw3, ← hQ, if_neg (by omega)]
        · exact hPR3
        · exact hMI3
        · exact hSw3
        · exact hT3
        · exact hD3
        · exact hL3
      · refine V_aload_n dX11_contract_112 rfl ?_
        refine V_iload_n dX11_contract_113 rfl ?_
        refine V_iconst dX11_contract_114 ?_
        refine V_iload dX11_contract_115 rfl ?_
        refine V_bipush dX11_contract_117 (by decide) ?_
        refine V_iremN dX11_contract_119 ⟨⟨by omega, by omega⟩, ⟨by omega, by omega⟩, by omega, by omega⟩ ?_
        refine V_iload dX11_contract_120 rfl ?_
        refine V_bipush dX11_contract_122 (by decide) ?_
        refine V_idiv dX11_contract_124 ⟨⟨by omega, by omega⟩, ⟨by omega, by omega⟩, by omega, by omega⟩ ?_
        refine V_callVF (As := [.int (zI s), .int (zI 3), .int (zI ((ls P (P 0 11) (P 0 12) s) % 10)), .int (zI ((ls P (P 0 11) (P 0 12) s) / 10))]) (b := a 0) (hb := (show (mW a σ3)[0]? = some (a 0, .inr (10, mF a σ3)) from rfl)) (hc := (show vwCl[10]? = some (RX11, TX11, 30) from rfl)) hK (c_gives hE a σ3 s 3 ((ls P (P 0 11) (P 0 12) s) % 10) ((ls P (P 0 11) (P 0 12) s) / 10) Q ⟨hMI3, hPR3, (by omega), hMI3.kp (Or.inr (Or.inr (Or.inr ⟨rfl, by omega, by omega, by omega, by omega⟩)))⟩) mokX11_gives w1339 w1341 wps2_14 ⟨Nat.le_of_ble_eq_true rfl, Nat.le_of_ble_eq_true rfl⟩ rfl (Nat.le_of_ble_eq_true rfl) ⟨Nat.le_refl _, Nat.le_refl _⟩ dX11_contract_125 (fun v w p_4 => ?_)
        obtain ⟨rfl, rfl⟩ := p_4
        show V K sX11_contract 0 0 (mW a (kp σ3 s 3 ((ls P (P 0 11) (P 0 12) s) % 10) ((ls P (P 0 11) (P 0 12) s) / 10))) _ [.int (zI (sz (kp Q s 3 ((ls P (P 0 11) (P 0 12) s) % 10) ((ls P (P 0 11) (P 0 12) s) / 10)) s))] 128
        refine V_pop dX11_contract_128 rfl ?_
        refine V_mask (L' := [some (.ref (a 0)), some (.int (zI s)), none, none, none]) [true, true, false, false, false] rfl ?_
        refine seg_129 (kp Q s 3 (ls P (P 0 11) (P 0 12) s % 10) (ls P (P 0 11) (P 0 12) s / 10)) (kp σ3 s 3 ((ls P (P 0 11) (P 0 12) s) % 10) ((ls P (P 0 11) (P 0 12) s) / 10)) ?_ ?_ ?_ ?_ ?_ ?_ ?_ ?_
        · omega
        · rw [cw3, ← hQ, if_pos c_3]
        · exact ((hPR3).kp _ _ _ _)
        · exact hMI3.kp (Or.inr (Or.inr (Or.inr ⟨rfl, by omega, by omega, by omega, by omega⟩)))
        · exact hSw3.kp _ _ _ _
        · exact hT3
        · exact hD3
        · exact hL3
    have seg_56 : ∀ (Q : St) (σ3 : St), (s < P 0 2) → (Q = cw1 P s (kp (ctq P s) s 0 0 0)) → (PR Q σ3) → (MI Q) → (Sw P Q) → (σ3 1 29 = 0) → (Dealt P (P 0 11) (P 0 12) σ3) → (Lived P (P 0 11) (P 0 12) σ3) → (Diff P (P 0 11) (P 0 12) s σ3) → V K sX11_contract 0 0 (mW a σ3) [some (.ref (a 0)), some (.int (zI s)), none, none, none] [] 56 := by
      intro Q σ3 hsn hQ hPR3 hMI3 hSw3 hT3 hD3 hL3 hDf3
      refine V_aload_n dX11_contract_56 rfl ?_
      refine V_callVF (As := []) (b := a 0) (hb := (show (mW a σ3)[0]? = some (a 0, .inr (10, mF a σ3)) from rfl)) (hc := (show vwCl[10]? = some (RX11, TX11, 30) from rfl)) hK (c_two hE a σ3 Q (P 0 11) (P 0 12) s ⟨hMI3, hPR3, by rw [hSw3.Diff]; exact hDf3⟩) mokX11_two w1378 w1380 wps3_3 ⟨Nat.le_of_ble_eq_true rfl, Nat.le_of_ble_eq_true rfl⟩ rfl (Nat.le_of_ble_eq_true rfl) ⟨Nat.le_refl _, Nat.le_refl _⟩ dX11_contract_57 (fun v w p_5 => ?_)
      obtain ⟨rfl, rfl⟩ := p_5
      show V K sX11_contract 0 0 (mW a σ3) _ [.int (zI (100 * tw1 Q (P 0 11) (P 0 12) s + tw2 Q (P 0 11) (P 0 12) s))] 60
      have tb := two_b hM (P 0 11) (P 0 12) s
      have zb := sz_b hMI3 hs.1 (show s < 4 by omega)
      have mt := mulB (a := tw1 P (P 0 11) (P 0 12) s) (b := tw2 P (P 0 11) (P 0 12) s) (A := 8) (B := 8) (by omega) (by omega) (by omega) (by omega)
      refine V_eqT (y := zI (100 * tw1 P (P 0 11) (P 0 12) s + tw2 P (P 0 11) (P 0 12) s)) (by rw [hSw3.tw1, hSw3.tw2]) ?_
      refine V_istore_n (L' := [some (.ref (a 0)), some (.int (zI s)), none, some (.int (zI (100 * tw1 P (P 0 11) (P 0 12) s + tw2 P (P 0 11) (P 0 12) s))), none]) dX11_contract_60 (by decide) rfl ?_
      refine V_iload_n dX11_contract_61 rfl ?_
      refine V_bipush dX11_contract_62 (by decide) ?_
      refine V_idiv dX11_contract_64 ⟨⟨by omega, by omega⟩, ⟨by omega, by omega⟩, by omega, by omega⟩ ?_
      refine V_eqT (y := zI (tw1 P (P 0 11) (P 0 12) s)) (by rw [show (100 * tw1 P (P 0 11) (P 0 12) s + tw2 P (P 0 11) (P 0 12) s) / 100 = tw1 P (P 0 11) (P 0 12) s by omega]) ?_
      refine V_iload_n dX11_contract_65 rfl ?_
      refine V_bipush dX11_contract_66 (by decide) ?_
      refine V_iremN dX11_contract_68 ⟨⟨by omega, by omega⟩, ⟨by omega, by omega⟩, by omega, by omega⟩ ?_
      refine V_eqT (y := zI (tw2 P (P 0 11) (P 0 12) s)) (by rw [show (100 * tw1 P (P 0 11) (P 0 12) s + tw2 P (P 0 11) (P 0 12) s) % 100 = tw2 P (P 0 11) (P 0 12) s by omega]) ?_
      refine V_imul dX11_contract_69 ?_
      refine V_aload_n dX11_contract_70 rfl ?_
      refine V_iload_n dX11_contract_71 rfl ?_
      refine V_callVF (As := [.int (zI s)]) (b := a 0) (hb := (show (mW a σ3)[0]? = some (a 0, .inr (10, mF a σ3)) from rfl)) (hc := (show vwCl[10]? = some (RX11, TX11, 30) from rfl)) hK (c_size hE a σ3 s Q ⟨hMI3, hPR3, by omega⟩) mokX11_size w1343 w1345 wps2_15 ⟨Nat.le_of_ble_eq_true rfl, Nat.le_of_ble_eq_true rfl⟩ rfl (Nat.le_of_ble_eq_true rfl) ⟨Nat.le_refl _, Nat.le_refl _⟩ dX11_contract_72 (fun v w p_6 => ?_)
      obtain ⟨rfl, rfl⟩ := p_6
      show V K sX11_contract 0 0 (mW a σ3) _ [.int (zI (sz Q s)), .int (zI ((tw1 P (P 0 11) (P 0 12) s) * (tw2 P (P 0 11) (P 0 12) s)))] 75
      refine V_icmp_ge (tgt := 93) dX11_contract_75 (by decide) ⟨⟨by omega, by omega⟩, ⟨by omega, by omega⟩⟩ (fun c_7 => ?_) (fun c_7 => ?_)
      · refine V_mask (L' := [some (.ref (a 0)), some (.int (zI s)), none, none, none]) [true, true, false, false, false] rfl ?_
        refine seg_93 Q σ3 ?_ ?_ ?_ ?_ ?_ ?_ ?_ ?_ ?_
        · omega
        · rw [cw2, ← hQ, if_neg (by omega)]
        · exact hPR3
        · exact hMI3
        · exact hSw3
        · exact hT3
        · exact hD3
        · exact hL3
        · exact hDf3
      · refine V_aload_n dX11_contract_78 rfl ?_
        refine V_iload_n dX11_contract_79 rfl ?_
        refine V_iconst dX11_contract_80 ?_
        refine V_iload_n dX11_contract_81 rfl ?_
        refine V_bipush dX11_contract_82 (by decide) ?_
        refine V_idiv dX11_contract_84 ⟨⟨by omega, by omega⟩, ⟨by omega, by omega⟩, by omega, by omega⟩ ?_
        refine V_eqT (y := zI (tw1 P (P 0 11) (P 0 12) s)) (by rw [show (100 * tw1 P (P 0 11) (P 0 12) s + tw2 P (P 0 11) (P 0 12) s) / 100 = tw1 P (P 0 11) (P 0 12) s by omega]) ?_
        refine V_iload_n dX11_contract_85 rfl ?_
        refine V_bipush dX11_contract_86 (by decide) ?_
        refine V_iremN dX11_contract_88 ⟨⟨by omega, by omega⟩, ⟨by omega, by omega⟩, by omega, by omega⟩ ?_
        refine V_eqT (y := zI (tw2 P (P 0 11) (P 0 12) s)) (by rw [show (100 * tw1 P (P 0 11) (P 0 12) s + tw2 P (P 0 11) (P 0 12) s) % 100 = tw2 P (P 0 11) (P 0 12) s by omega]) ?_
        refine V_callVF (As := [.int (zI s), .int (zI 2), .int (zI (tw1 P (P 0 11) (P 0 12) s)), .int (zI (tw2 P (P 0 11) (P 0 12) s))]) (b := a 0) (hb := (show (mW a σ3)[0]? = some (a 0, .inr (10, mF a σ3)) from rfl)) (hc := (show vwCl[10]? = some (RX11, TX11, 30) from rfl)) hK (c_gives hE a σ3 s 2 (tw1 P (P 0 11) (P 0 12) s) (tw2 P (P 0 11) (P 0 12) s) Q ⟨hMI3, hPR3, (by omega), hMI3.kp (Or.inr (Or.inr (Or.inl ⟨rfl, by omega, by omega, by omega, by omega⟩)))⟩) mokX11_gives w1339 w1341 wps2_14 ⟨Nat.le_of_ble_eq_true rfl, Nat.le_of_ble_eq_true rfl⟩ rfl (Nat.le_of_ble_eq_true rfl) ⟨Nat.le_refl _, Nat.le_refl _⟩ dX11_contract_89 (fun v w p_8 => ?_)
        obtain ⟨rfl, rfl⟩ := p_8
        show V K sX11_contract 0 0 (mW a (kp σ3 s 2 (tw1 P (P 0 11) (P 0 12) s) (tw2 P (P 0 11) (P 0 12) s))) _ [.int (zI (sz (kp Q s 2 (tw1 P (P 0 11) (P 0 12) s) (tw2 P (P 0 11) (P 0 12) s)) s))] 92
        refine V_pop dX11_contract_92 rfl ?_
        refine V_mask (L' := [some (.ref (a 0)), some (.int (zI s)), none, none, none]) [true, true, false, false, false] rfl ?_
        refine seg_93 (kp Q s 2 (tw1 P (P 0 11) (P 0 12) s) (tw2 P (P 0 11) (P 0 12) s)) (kp σ3 s 2 (tw1 P (P 0 11) (P 0 12) s) (tw2 P (P 0 11) (P 0 12) s)) ?_ ?_ ?_ ?_ ?_ ?_ ?_ ?_ ?_
        · omega
        · rw [cw2, ← hQ, if_pos c_7]
        · exact ((hPR3).kp _ _ _ _)
        · exact hMI3.kp (Or.inr (Or.inr (Or.inl ⟨rfl, by omega, by omega, by omega, by omega⟩)))
        · exact hSw3.kp _ _ _ _
        · exact hT3
        · exact hD3
        · exact hL3
        · exact hDf3
    refine V_iload_n dX11_contract_11 rfl ?_
    refine V_aload_n dX11_contract_12 rfl ?_
    refine mg_statements rfl dX11_contract_13 ?_
    refine V_icmp_ge (tgt := 135) dX11_contract_16 (by decide) ⟨⟨by omega, by omega⟩, ⟨by omega, by omega⟩⟩ (fun c_9 => ?_) (fun c_9 => ?_)
    · refine V_aload_n dX11_contract_135 rfl ?_
      refine V_callVF (As := []) (b := a 0) (hb := (show (mW a σ1)[0]? = some (a 0, .inr (10, mF a σ1)) from rfl)) (hc := (show vwCl[10]? = some (RX11, TX11, 30) from rfl)) hK (c_rooms hE a σ1 (ctq P s) ⟨hMI, hPR⟩) mokX11_rooms w1394 w1396 wps3_7 ⟨Nat.le_of_ble_eq_true rfl, Nat.le_of_ble_eq_true rfl⟩ rfl (Nat.le_of_ble_eq_true rfl) ⟨Nat.le_refl _, Nat.le_refl _⟩ dX11_contract_136 (fun v w p_10 => ?_)
      obtain ⟨rfl, rfl⟩ := p_10
      show V K sX11_contract 0 0 (mW a σ1) _ [.int (zI (smv (sz (ctq P s)) ((ctq P s) 0 2)))] 139
      refine V_iret hR rfl (Nat.le_refl _) (Nat.le_refl _) dX11_contract_139 ?_
      exact pub rfl (ziE (by rw [hSw.keys, show s = P 0 2 by omega])) hT (by rw [← show s = P 0 2 by omega]; exact hPR)
    · refine V_aload_n dX11_contract_19 rfl ?_
      refine V_iload_n dX11_contract_20 rfl ?_
      refine V_callVF (As := [.int (zI s)]) (b := a 0) (hb := (show (mW a σ1)[0]? = some (a 0, .inr (10, mF a σ1)) from rfl)) (hc := (show vwCl[10]? = some (RX11, TX11, 30) from rfl)) hK (c_differs hE a σ1 s (ctq P s) (P 0 11) (P 0 12) ⟨hMI, hPR, by rw [hSw.Dealt]; exact hD, by rw [hSw.Lived]; exact hL, hs.1, by rw [hSw.keys]; omega⟩) mokX11_differs w1366 w1368 wps3_0 ⟨Nat.le_of_ble_eq_true rfl, Nat.le_of_ble_eq_true rfl⟩ rfl (Nat.le_of_ble_eq_true rfl) ⟨Nat.le_refl _, Nat.le_refl _⟩ dX11_contract_21 (fun v w p_11 => ?_)
      obtain ⟨σ_12, rfl, rfl, q_13, q_14⟩ := p_11
      show V K sX11_contract 0 0 (mW a σ_12) _ [] 24
      refine V_aload_n dX11_contract_24 rfl ?_
      refine V_iload_n dX11_contract_25 rfl ?_
      refine V_iconst dX11_contract_26 ?_
      refine V_iconst dX11_contract_27 ?_
      refine V_iconst dX11_contract_28 ?_
      refine V_callVF (As := [.int (zI s), .int (zI 0), .int (zI 0), .int (zI 0)]) (b := a 0) (hb := (show (mW a σ_12)[0]? = some (a 0, .inr (10, mF a σ_12)) from rfl)) (hc := (show vwCl[10]? = some (RX11, TX11, 30) from rfl)) hK (c_gives hE a σ_12 s 0 0 0 (ctq P s) ⟨hMI, ((hPR).fr q_13 (by decide)), (by omega), hMI.kp (Or.inl rfl)⟩) mokX11_gives w1339 w1341 wps2_14 ⟨Nat.le_of_ble_eq_true rfl, Nat.le_of_ble_eq_true rfl⟩ rfl (Nat.le_of_ble_eq_true rfl) ⟨Nat.le_refl _, Nat.le_refl _⟩ dX11_contract_29 (fun v w p_15 => ?_)
      obtain ⟨rfl, rfl⟩ := p_15
      show V K sX11_contract 0 0 (mW a (kp σ_12 s 0 0 0)) _ [.int (zI (sz (kp (ctq P s) s 0 0 0) s))] 32
      refine V_pop dX11_contract_32 rfl ?_
      refine V_aload_n dX11_contract_33 rfl ?_
      refine V_callVF (As := []) (b := a 0) (hb := (show (mW a (kp σ_12 s 0 0 0))[0]? = some (a 0, .inr (10, mF a (kp σ_12 s 0 0 0))) from rfl)) (hc := (show vwCl[10]? = some (RX11, TX11, 30) from rfl)) hK (c_rest hE a (kp σ_12 s 0 0 0) (kp (ctq P s) s 0 0 0) (P 0 11) (P 0 12) s ⟨hMI.kp (Or.inl rfl), ((((hPR).fr q_13 (by decide))).kp _ _ _ _), by rw [(hSw.kp s 0 0 0).Diff, ← hSw.Diff]; exact q_14⟩) mokX11_rest w1370 w1372 wps3_1 ⟨Nat.le_of_ble_eq_true rfl, Nat.le_of_ble_eq_true rfl⟩ rfl (Nat.le_of_ble_eq_true rfl) ⟨Nat.le_refl _, Nat.le_refl _⟩ dX11_contract_34 (fun v w p_16 => ?_)
      obtain ⟨rfl, rfl⟩ := p_16
      show V K sX11_contract 0 0 (mW a (kp σ_12 s 0 0 0)) _ [.int (zI (lr (kp (ctq P s) s 0 0 0) (P 0 11) (P 0 12) s))] 37
      have lb := lr_b hM (P 0 11) (P 0 12) s
      have zb := sz_b (hMI.kp (s := s) (k := 0) (a := 0) (b := 0) (Or.inl rfl)) hs.1 (show s < 4 by omega)
      refine V_eqT (y := zI (lr P (P 0 11) (P 0 12) s)) (by rw [(hSw.kp s 0 0 0).lr]) ?_
      refine V_istore_n (L' := [some (.ref (a 0)), some (.int (zI s)), some (.int (zI (lr P (P 0 11) (P 0 12) s))), none, none]) dX11_contract_37 (by decide) rfl ?_
      refine V_iload_n dX11_contract_38 rfl ?_
      refine V_aload_n dX11_contract_39 rfl ?_
      refine V_iload_n dX11_contract_40 rfl ?_
      refine V_callVF (As := [.int (zI s)]) (b := a 0) (hb := (show (mW a (kp σ_12 s 0 0 0))[0]? = some (a 0, .inr (10, mF a (kp σ_12 s 0 0 0))) from rfl)) (hc := (show vwCl[10]? = some (RX11, TX11, 30) from rfl)) hK (c_size hE a (kp σ_12 s 0 0 0) s (kp (ctq P s) s 0 0 0) ⟨hMI.kp (Or.inl rfl), ((((hPR).fr q_13 (by decide))).kp _ _ _ _), by omega⟩) mokX11_size w1343 w1345 wps2_15 ⟨Nat.le_of_ble_eq_true rfl, Nat.le_of_ble_eq_true rfl⟩ rfl (Nat.le_of_ble_eq_true rfl) ⟨Nat.le_refl _, Nat.le_refl _⟩ dX11_contract_41 (fun v w p_17 => ?_)
      obtain ⟨rfl, rfl⟩ := p_17
      show V K sX11_contract 0 0 (mW a (kp σ_12 s 0 0 0)) _ [.int (zI (sz (kp (ctq P s) s 0 0 0) s)), .int (zI (lr P (P 0 11) (P 0 12) s))] 44
      refine V_icmp_ge (tgt := 56) dX11_contract_44 (by decide) ⟨⟨by omega, by omega⟩, ⟨by omega, by omega⟩⟩ (fun c_18 => ?_) (fun c_18 => ?_)
      · refine V_mask (L' := [some (.ref (a 0)), some (.int (zI s)), none, none, none]) [true, true, false, false, false] rfl ?_
        refine seg_56 (kp (ctq P s) s 0 0 0) (kp σ_12 s 0 0 0) ?_ ?_ ?_ ?_ ?_ ?_ ?_ ?_ ?_
        · omega
        · rw [cw1, if_neg (by omega)]
        · exact ((((hPR).fr q_13 (by decide))).kp _ _ _ _)
        · exact hMI.kp (Or.inl rfl)
        · exact hSw.kp _ _ _ _
        · exact (congrFun (q_13 1 (by decide)) 29).trans hT
        · exact hD.of (q_13 17 (by decide)) (q_13 18 (by decide))
        · exact hL.of (q_13 19 (by decide))
        · exact (by rw [← hSw.Diff]; exact q_14)
      · refine V_aload_n dX11_contract_47 rfl ?_
        refine V_iload_n dX11_contract_48 rfl ?_
        refine V_iconst dX11_contract_49 ?_
        refine V_iload_n dX11_contract_50 rfl ?_
        refine V_iconst dX11_contract_51 ?_
        refine V_callVF (As := [.int (zI s), .int (zI 1), .int (zI (lr P (P 0 11) (P 0 12) s)), .int (zI 0)]) (b := a 0) (hb := (show (mW a (kp σ_12 s 0 0 0))[0]? = some (a 0, .inr (10, mF a (kp σ_12 s 0 0 0))) from rfl)) (hc := (show vwCl[10]? = some (RX11, TX11, 30) from rfl)) hK (c_gives hE a (kp σ_12 s 0 0 0) s 1 (lr P (P 0 11) (P 0 12) s) 0 (kp (ctq P s) s 0 0 0) ⟨hMI.kp (Or.inl rfl), ((((hPR).fr q_13 (by decide))).kp _ _ _ _), (by omega), (hMI.kp (Or.inl rfl)).kp (Or.inr (Or.inl ⟨rfl, by omega, by omega⟩))⟩) mokX11_gives w1339 w1341 wps2_14 ⟨Nat.le_of_ble_eq_true rfl, Nat.le_of_ble_eq_true rfl⟩ rfl (Nat.le_of_ble_eq_true rfl) ⟨Nat.le_refl _, Nat.le_refl _⟩ dX11_contract_52 (fun v w p_19 => ?_)
        obtain ⟨rfl, rfl⟩ := p_19
        show V K sX11_contract 0 0 (mW a (kp (kp σ_12 s 0 0 0) s 1 (lr P (P 0 11) (P 0 12) s) 0)) _ [.int (zI (sz (kp (kp (ctq P s) s 0 0 0) s 1 (lr P (P 0 11) (P 0 12) s) 0) s))] 55
        refine V_pop dX11_contract_55 rfl ?_
        refine V_mask (L' := [some (.ref (a 0)), some (.int (zI s)), none, none, none]) [true, true, false, false, false] rfl ?_
        refine seg_56 (kp (kp (ctq P s) s 0 0 0) s 1 (lr P (P 0 11) (P 0 12) s) 0) (kp (kp σ_12 s 0 0 0) s 1 (lr P (P 0 11) (P 0 12) s) 0) ?_ ?_ ?_ ?_ ?_ ?_ ?_ ?_ ?_
        · omega
        · rw [cw1, if_pos c_18]
        · exact ((((((hPR).fr q_13 (by decide))).kp _ _ _ _)).kp _ _ _ _)
        · exact (hMI.kp (Or.inl rfl)).kp (Or.inr (Or.inl ⟨rfl, by omega, by omega⟩))
        · exact (hSw.kp _ _ _ _).kp _ _ _ _
        · exact (congrFun (q_13 1 (by decide)) 29).trans hT
        · exact hD.of (q_13 17 (by decide)) (q_13 18 (by decide))
        · exact hL.of (q_13 19 (by decide))
        · exact (by rw [← hSw.Diff]; exact q_14)
  have seg_11 : ∀ (s : Int) (σ1 : St), (0 ≤ s ∧ s ≤ P 0 2) → (PR (ctq P s) σ1) → (MI (ctq P s)) → (Sw P (ctq P s)) → (σ1 1 29 = 0) → (Dealt P (P 0 11) (P 0 12) σ1) → (Lived P (P 0 11) (P 0 12) σ1) → V K sX11_contract 0 0 (mW a σ1) [some (.ref (a 0)), some (.int (zI s)), none, none, none] [] 11 := fun s σ1 hs hPR hMI hSw hT hD hL => loop_11 _ s σ1 rfl hs hPR hMI hSw hT hD hL
  refine V_aload_n dX11_contract_0 rfl ?_
  refine V_iconst dX11_contract_1 ?_
  refine mp_thrown rfl dX11_contract_2 ?_
  refine V_aload_n dX11_contract_5 rfl ?_
  refine V_callVF (As := []) (b := a 0) (hb := (show (mW a (up σ 1 29 0))[0]? = some (a 0, .inr (10, mF a (up σ 1 29 0))) from rfl)) (hc := (show vwCl[10]? = some (RX11, TX11, 30) from rfl)) hK (c_finds hE a (up σ 1 29 0) P ⟨hM, ((hP).up (by decide))⟩) mokX11_finds w1295 w1297 wps2_9 ⟨Nat.le_of_ble_eq_true rfl, Nat.le_of_ble_eq_true rfl⟩ rfl (Nat.le_of_ble_eq_true rfl) ⟨Nat.le_refl _, Nat.le_refl _⟩ dX11_contract_6 (fun v w p_20 => ?_)
  obtain ⟨σ_21, rfl, rfl, q_22, q_23, q_24⟩ := p_20
  show V K sX11_contract 0 0 (mW a σ_21) _ [] 9
  refine V_iconst dX11_contract_9 ?_
  refine V_istore_n (L' := [some (.ref (a 0)), some (.int (zI 0)), none, none, none]) dX11_contract_10 (by decide) rfl ?_
  refine seg_11 0 σ_21 ?_ ?_ ?_ ?_ ?_ ?_ ?_
  · omega
  · exact ((((hP).up (by decide))).fr q_22 (by decide))
  · exact hM
  · exact Sw.rf P
  · exact ((congrFun (q_22 1 (by decide)) 29).trans (rfl))
  · exact q_23
  · exact q_24

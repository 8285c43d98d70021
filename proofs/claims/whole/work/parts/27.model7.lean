set_option maxRecDepth 100000 in
set_option maxHeartbeats 4000000 in
theorem c_size {E : EV} (hE : Stb E) (a : Nat → Nat) (σ : St) (s0 : Int) (P : St) (hp : MI P ∧ PR P σ ∧ 0 ≤ s0 ∧ s0 < 4) : MC E yX11_size sX11_size [.ref (a 0), .int (zI s0)] (mW a σ) (fun v w => v = some (.int (zI (sz P s0))) ∧ w = mW a σ) := by
  refine MC.of hE [some (.ref (a 0)), some (.int (zI s0))] 0 rfl rfl rfl (by simp [Value.category]) (Nat.le_of_ble_eq_true rfl) (fun K hK hR => ?_)
  obtain ⟨hM, hP, hp⟩ := hp
  have e0 := hP 0 (by decide) (by decide)
  have f0 : ∀ i, σ 0 i = P 0 i := fun i => by rw [e0]
  have mR := hM.1
  have mC := hM.2.1
  have mN := hM.2.2.1
  have mp := hM.pts
  have ma := hM.als
  have gR := f0 0
  have gC := f0 1
  have gN := f0 2
  have w0 : MW P s0 := hM.mw hp.1 hp.2
  unfold MW at w0
  have g13 : ∀ i, σ 13 i = P 13 i := fun i => by rw [hP 13 (by decide) (by decide)]
  have g14 : ∀ i, σ 14 i = P 14 i := fun i => by rw [hP 14 (by decide) (by decide)]
  have g15 : ∀ i, σ 15 i = P 15 i := fun i => by rw [hP 15 (by decide) (by decide)]
  have q13 := g13 s0
  have q14 := g14 s0
  have q15 := g15 s0
  refine V_aload_n dX11_size_0 rfl ?_
  refine mg_kind rfl dX11_size_1 ?_
  refine V_iload_n dX11_size_4 rfl ?_
  refine ml_kind ⟨by omega, by omega⟩ dX11_size_5 ?_
  refine V_if_ne (tgt := 21) dX11_size_6 (by decide) ⟨by omega, by omega⟩ (fun c_1 => ?_) (fun c_1 => ?_)
  · refine V_aload_n dX11_size_21 rfl ?_
    refine mg_kind rfl dX11_size_22 ?_
    refine V_iload_n dX11_size_25 rfl ?_
    refine ml_kind ⟨by omega, by omega⟩ dX11_size_26 ?_
    refine V_iconst dX11_size_27 ?_
    refine V_icmp_ne (tgt := 47) dX11_size_28 (by decide) ⟨⟨by omega, by omega⟩, ⟨by omega, by omega⟩⟩ (fun c_2 => ?_) (fun c_2 => ?_)
    · refine V_aload_n dX11_size_47 rfl ?_
      refine mg_kind rfl dX11_size_48 ?_
      refine V_iload_n dX11_size_51 rfl ?_
      refine ml_kind ⟨by omega, by omega⟩ dX11_size_52 ?_
      refine V_iconst dX11_size_53 ?_
      refine V_icmp_ne (tgt := 66) dX11_size_54 (by decide) ⟨⟨by omega, by omega⟩, ⟨by omega, by omega⟩⟩ (fun c_3 => ?_) (fun c_3 => ?_)
      · refine V_aload_n dX11_size_66 rfl ?_
        refine mg_second rfl dX11_size_67 ?_
        refine V_iload_n dX11_size_70 rfl ?_
        refine ml_second ⟨by omega, by omega⟩ dX11_size_71 ?_
        refine V_iret hR rfl (Nat.le_refl _) (Nat.le_refl _) dX11_size_72 ?_
        exact ⟨ziE (by rw [sz, if_neg (show ¬ P 13 s0 = 0 by omega), if_neg (show ¬ P 13 s0 = 2 by omega), if_neg (show ¬ P 13 s0 = 1 by omega), q15]), rfl⟩
      · refine V_aload_n dX11_size_57 rfl ?_
        refine mg_first rfl dX11_size_58 ?_
        refine V_iload_n dX11_size_61 rfl ?_
        refine ml_first ⟨by omega, by omega⟩ dX11_size_62 ?_
        refine V_goto (tgt := 72) dX11_size_63 (by decide) ?_
        refine V_iret hR rfl (Nat.le_refl _) (Nat.le_refl _) dX11_size_72 ?_
        exact ⟨ziE (by rw [sz, if_neg (show ¬ P 13 s0 = 0 by omega), if_neg (show ¬ P 13 s0 = 2 by omega), if_pos (show P 13 s0 = 1 by omega), q14]), rfl⟩
    · refine V_aload_n dX11_size_31 rfl ?_
      refine mg_first rfl dX11_size_32 ?_
      refine V_iload_n dX11_size_35 rfl ?_
      refine ml_first ⟨by omega, by omega⟩ dX11_size_36 ?_
      refine V_aload_n dX11_size_37 rfl ?_
      refine mg_second rfl dX11_size_38 ?_
      refine V_iload_n dX11_size_41 rfl ?_
      refine ml_second ⟨by omega, by omega⟩ dX11_size_42 ?_
      refine V_imul dX11_size_43 ?_
      refine V_goto (tgt := 72) dX11_size_44 (by decide) ?_
      refine V_iret hR rfl (Nat.le_refl _) (Nat.le_refl _) dX11_size_72 ?_
      exact ⟨ziE (by rw [sz, if_neg (show ¬ P 13 s0 = 0 by omega), if_pos (show P 13 s0 = 2 by omega), q14, q15]), rfl⟩
  · refine V_aload_n dX11_size_9 rfl ?_
    refine mg_rows rfl dX11_size_10 ?_
    refine V_aload_n dX11_size_13 rfl ?_
    refine mg_columns rfl dX11_size_14 ?_
    refine V_imul dX11_size_17 ?_
    refine V_goto (tgt := 72) dX11_size_18 (by decide) ?_
    refine V_iret hR rfl (Nat.le_refl _) (Nat.le_refl _) dX11_size_72 ?_
    exact ⟨ziE (by rw [sz, if_pos (show P 13 s0 = 0 by omega), gR, gC]; rfl), rfl⟩
set_option maxRecDepth 100000 in
set_option maxHeartbeats 4000000 in
theorem c_place {E : EV} (hE : Stb E) (a : Nat → Nat) (σ : St) (cell : Int) (P : St) (ka : Int) (hp : MI P ∧ PR P σ ∧ (0 ≤ ka ∧ ka < al P) ∧ cell = cid P ka) : MC E yX11_place sX11_place [.ref (a 0), .int (zI cell)] (mW a σ) (fun v w => v = some (.int (zI (plc P (ka / pt P) (ka % pt P)))) ∧ w = mW a σ) := by
  refine MC.of hE [some (.ref (a 0)), some (.int (zI cell)), none, none, none] 3 rfl rfl rfl (by simp [Value.category]) (Nat.le_of_ble_eq_true rfl) (fun K hK hR => ?_)
  obtain ⟨hM, hP, hp⟩ := hp
  have e0 := hP 0 (by decide) (by decide)
  have f0 : ∀ i, σ 0 i = P 0 i := fun i => by rw [e0]
  have mR := hM.1
  have mC := hM.2.1
  have mN := hM.2.2.1
  have mp := hM.pts
  have ma := hM.als
  have gR := f0 0
  have gC := f0 1
  have gN := f0 2
  obtain ⟨hk, hc⟩ := hp
  have kc := cid_b hM hk.1 hk.2
  rw [← hc] at kc
  have ke := cell_st hM hk.1 hk.2
  have pr := place_rc hM ke.2.2.1 ke.2.2.2.1
  have w0 : MW P (ka / pt P) := hM.mw ke.1 (by omega)
  unfold MW at w0
  have g13 : ∀ i, σ 13 i = P 13 i := fun i => by rw [hP 13 (by decide) (by decide)]
  have g14 : ∀ i, σ 14 i = P 14 i := fun i => by rw [hP 14 (by decide) (by decide)]
  have g15 : ∀ i, σ 15 i = P 15 i := fun i => by rw [hP 15 (by decide) (by decide)]
  have q13 := g13 (ka / pt P)
  have q14 := g14 (ka / pt P)
  have q15 := g15 (ka / pt P)
  refine V_iload_n dX11_place_0 rfl ?_
  refine V_bipush dX11_place_1 (by decide) ?_
  refine V_idiv dX11_place_3 ⟨⟨by omega, by omega⟩, ⟨by omega, by omega⟩, by omega, by omega⟩ ?_
  refine V_eqT (y := zI (ka / pt P)) (by rw [kc.2.1]) ?_
  refine V_istore_n (L' := [some (.ref (a 0)), some (.int (zI cell)), some (.int (zI (ka / pt P))), none, none]) dX11_place_4 (by decide) rfl ?_
  refine V_aload_n dX11_place_5 rfl ?_
  refine V_iload_n dX11_place_6 rfl ?_
  refine V_callVF (As := [.int (zI cell)]) (b := a 0) (hb := (show (mW a σ)[0]? = some (a 0, .inr (10, mF a σ)) from rfl)) (hc := (show vwCl[10]? = some (RX11, TX11, 30) from rfl)) hK (c_row hE a σ cell P ⟨hM, hP, by refine ⟨?_, ?_⟩ <;> (try refine ⟨?_, ?_⟩) <;> omega⟩) mokX11_row w1219 w1221 wps1_15 ⟨Nat.le_of_ble_eq_true rfl, Nat.le_of_ble_eq_true rfl⟩ rfl (Nat.le_of_ble_eq_true rfl) ⟨Nat.le_refl _, Nat.le_refl _⟩ dX11_place_7 (fun v w p_1 => ?_)
  obtain ⟨rfl, rfl⟩ := p_1
  show V K sX11_place 0 0 (mW a σ) _ [.int (zI (cell % 64 / P 0 1))] 10
  refine V_eqT (y := zI (ka % pt P / P 0 1)) (by rw [kc.2.2]) ?_
  refine V_istore_n (L' := [some (.ref (a 0)), some (.int (zI cell)), some (.int (zI (ka / pt P))), some (.int (zI (ka % pt P / P 0 1))), none]) dX11_place_10 (by decide) rfl ?_
  refine V_aload_n dX11_place_11 rfl ?_
  refine V_iload_n dX11_place_12 rfl ?_
  refine V_callVF (As := [.int (zI cell)]) (b := a 0) (hb := (show (mW a σ)[0]? = some (a 0, .inr (10, mF a σ)) from rfl)) (hc := (show vwCl[10]? = some (RX11, TX11, 30) from rfl)) hK (c_column hE a σ cell P ⟨hM, hP, by refine ⟨?_, ?_⟩ <;> (try refine ⟨?_, ?_⟩) <;> omega⟩) mokX11_column w1223 w1225 wps2_0 ⟨Nat.le_of_ble_eq_true rfl, Nat.le_of_ble_eq_true rfl⟩ rfl (Nat.le_of_ble_eq_true rfl) ⟨Nat.le_refl _, Nat.le_refl _⟩ dX11_place_13 (fun v w p_2 => ?_)
  obtain ⟨rfl, rfl⟩ := p_2
  show V K sX11_place 0 0 (mW a σ) _ [.int (zI (cell % 64 % P 0 1))] 16
  refine V_eqT (y := zI (ka % pt P % P 0 1)) (by rw [kc.2.2]) ?_
  refine V_istore (L' := [some (.ref (a 0)), some (.int (zI cell)), some (.int (zI (ka / pt P))), some (.int (zI (ka % pt P / P 0 1))), some (.int (zI (ka % pt P % P 0 1)))]) dX11_place_16 (by decide) rfl ?_
  refine V_aload_n dX11_place_18 rfl ?_
  refine mg_kind rfl dX11_place_19 ?_
  refine V_iload_n dX11_place_22 rfl ?_
  refine ml_kind ⟨by omega, by omega⟩ dX11_place_23 ?_
  refine V_eqT (y := zI (P 13 (ka / pt P))) (by rw [q13]) ?_
  rcases (show (P 13 (ka / pt P)) < 0 ∨ 2 < (P 13 (ka / pt P)) ∨ (P 13 (ka / pt P)) = 0 ∨ (P 13 (ka / pt P)) = 1 ∨ (P 13 (ka / pt P)) = 2 by omega) with c_3 | c_3 | c_3 | c_3 | c_3
  · omega
  · refine V_tableOut (tgt := 95) dX11_place_24 ⟨by omega, by omega⟩ (Or.inr c_3) (by decide) ?_
    refine V_iload_n dX11_place_95 rfl ?_
    refine V_iload dX11_place_96 rfl ?_
    refine V_aload_n dX11_place_98 rfl ?_
    refine mg_first rfl dX11_place_99 ?_
    refine V_iload_n dX11_place_102 rfl ?_
    refine ml_first ⟨by omega, by omega⟩ dX11_place_103 ?_
    refine V_eqT (y := zI (P 14 (ka / pt P))) (by rw [q14]) ?_
    refine V_imul dX11_place_104 ?_
    have nn2 := mulB (a := ka % pt P % P 0 1) (b := P 14 (ka / pt P)) (A := 7) (B := 9) (by omega) (by omega) (by omega) (by omega)
    refine V_iadd dX11_place_105 ?_
    refine V_aload_n dX11_place_106 rfl ?_
    refine mg_second rfl dX11_place_107 ?_
    refine V_iload_n dX11_place_110 rfl ?_
    refine ml_second ⟨by omega, by omega⟩ dX11_place_111 ?_
    refine V_eqT (y := zI (P 15 (ka / pt P))) (by rw [q15]) ?_
    refine V_iremN dX11_place_112 ⟨⟨by omega, by omega⟩, ⟨by omega, by omega⟩, by omega, by omega⟩ ?_
    refine V_iret hR rfl (Nat.le_refl _) (Nat.le_refl _) dX11_place_113 ?_
    exact ⟨ziE (by rw [plc, if_neg (show ¬ P 13 (ka / pt P) = 0 by omega), if_neg (show ¬ P 13 (ka / pt P) = 1 by omega), if_neg (show ¬ P 13 (ka / pt P) = 2 by omega)]), rfl⟩
  · refine V_tableIn (tgt := 52) dX11_place_24 ⟨by omega, by omega⟩ (by omega) (by omega) (by rw [c_3]; rfl) (by decide) ?_
    refine V_iload_n dX11_place_52 rfl ?_
    refine V_bipush dX11_place_53 (by decide) ?_
    refine V_iremN dX11_place_55 ⟨⟨by omega, by omega⟩, ⟨by omega, by omega⟩, by omega, by omega⟩ ?_
    refine V_eqT (y := zI (ka % pt P)) (by rw [kc.2.2]) ?_
    refine V_iret hR rfl (Nat.le_refl _) (Nat.le_refl _) dX11_place_56 ?_
    exact ⟨ziE (by rw [plc, if_pos c_3]), rfl⟩
  · refine V_tableIn (tgt := 57) dX11_place_24 ⟨by omega, by omega⟩ (by omega) (by omega) (by rw [c_3]; rfl) (by decide) ?_
    refine V_iload_n dX11_place_57 rfl ?_
    refine V_bipush dX11_place_58 (by decide) ?_
    refine V_iremN dX11_place_60 ⟨⟨by omega, by omega⟩, ⟨by omega, by omega⟩, by omega, by omega⟩ ?_
    refine V_eqT (y := zI (ka % pt P)) (by rw [kc.2.2]) ?_
    refine V_aload_n dX11_place_61 rfl ?_
    refine mg_first rfl dX11_place_62 ?_
    refine V_iload_n dX11_place_65 rfl ?_
    refine ml_first ⟨by omega, by omega⟩ dX11_place_66 ?_
    refine V_eqT (y := zI (P 14 (ka / pt P))) (by rw [q14]) ?_
    refine V_iremN dX11_place_67 ⟨⟨by omega, by omega⟩, ⟨by omega, by omega⟩, by omega, by omega⟩ ?_
    refine V_iret hR rfl (Nat.le_refl _) (Nat.le_refl _) dX11_place_68 ?_
    exact ⟨ziE (by rw [plc, if_neg (show ¬ P 13 (ka / pt P) = 0 by omega), if_pos c_3]), rfl⟩
  · refine V_tableIn (tgt := 69) dX11_place_24 ⟨by omega, by omega⟩ (by omega) (by omega) (by rw [c_3]; rfl) (by decide) ?_
    refine V_iload_n dX11_place_69 rfl ?_
    refine V_aload_n dX11_place_70 rfl ?_
    refine mg_first rfl dX11_place_71 ?_
    refine V_iload_n dX11_place_74 rfl ?_
    refine ml_first ⟨by omega, by omega⟩ dX11_place_75 ?_
    refine V_eqT (y := zI (P 14 (ka / pt P))) (by rw [q14]) ?_
    refine V_iremN dX11_place_76 ⟨⟨by omega, by omega⟩, ⟨by omega, by omega⟩, by omega, by omega⟩ ?_
    refine V_aload_n dX11_place_77 rfl ?_
    refine mg_second rfl dX11_place_78 ?_
    refine V_iload_n dX11_place_81 rfl ?_
    refine ml_second ⟨by omega, by omega⟩ dX11_place_82 ?_
    have nn1 := Int.emod_nonneg (ka % pt P / P 0 1) (show P 14 (ka / pt P) ≠ 0 by omega)
    refine V_eqT (y := zI (P 15 (ka / pt P))) (by rw [q15]) ?_
    refine V_imul dX11_place_83 ?_
    refine V_iload dX11_place_84 rfl ?_
    refine V_aload_n dX11_place_86 rfl ?_
    refine mg_second rfl dX11_place_87 ?_
    refine V_iload_n dX11_place_90 rfl ?_
    refine ml_second ⟨by omega, by omega⟩ dX11_place_91 ?_
    refine V_eqT (y := zI (P 15 (ka / pt P))) (by rw [q15]) ?_
    refine V_iremN dX11_place_92 ⟨⟨by omega, by omega⟩, ⟨by omega, by omega⟩, by omega, by omega⟩ ?_
    refine V_iadd dX11_place_93 ?_
    refine V_iret hR rfl (Nat.le_refl _) (Nat.le_refl _) dX11_place_94 ?_
    exact ⟨ziE (by rw [plc, if_neg (show ¬ P 13 (ka / pt P) = 0 by omega), if_neg (show ¬ P 13 (ka / pt P) = 1 by omega), if_pos c_3]), rfl⟩
set_option maxRecDepth 100000 in
set_option maxHeartbeats 4000000 in
theorem c_gives {E : EV} (hE : Stb E) (a : Nat → Nat) (σ : St) (s0 : Int) (its : Int) (m1 : Int) (m2 : Int) (P : St) (hp : MI P ∧ PR P σ ∧ (0 ≤ s0 ∧ s0 < 4) ∧ MI (kp P s0 its m1 m2)) : MC E yX11_gives sX11_gives [.ref (a 0), .int (zI s0), .int (zI its), .int (zI m1), .int (zI m2)] (mW a σ) (fun v w => v = some (.int (zI (sz (kp P s0 its m1 m2) s0))) ∧ w = mW a (kp σ s0 its m1 m2)) := by
  refine MC.of hE [some (.ref (a 0)), some (.int (zI s0)), some (.int (zI its)), some (.int (zI m1)), some (.int (zI m2))] 0 rfl rfl rfl (by simp [Value.category]) (Nat.le_of_ble_eq_true rfl) (fun K hK hR => ?_)
  obtain ⟨hM, hP, hp⟩ := hp
  have e0 := hP 0 (by decide) (by decide)
  have f0 : ∀ i, σ 0 i = P 0 i := fun i => by rw [e0]
  have mR := hM.1
  have mC := hM.2.1
  have mN := hM.2.2.1
  have mp := hM.pts
  have ma := hM.als
  have gR := f0 0
  have gC := f0 1
  have gN := f0 2
  obtain ⟨hs, hM2⟩ := hp
  refine V_aload_n dX11_gives_0 rfl ?_
  refine mg_kind rfl dX11_gives_1 ?_
  refine V_iload_n dX11_gives_4 rfl ?_
  refine V_iload_n dX11_gives_5 rfl ?_
  refine ms_kind ⟨by omega, by omega⟩ dX11_gives_6 ?_
  refine V_aload_n dX11_gives_7 rfl ?_
  refine mg_first rfl dX11_gives_8 ?_
  refine V_iload_n dX11_gives_11 rfl ?_
  refine V_iload_n dX11_gives_12 rfl ?_
  refine ms_first ⟨by omega, by omega⟩ dX11_gives_13 ?_
  refine V_aload_n dX11_gives_14 rfl ?_
  refine mg_second rfl dX11_gives_15 ?_
  refine V_iload_n dX11_gives_18 rfl ?_
  refine V_iload dX11_gives_19 rfl ?_
  refine ms_second ⟨by omega, by omega⟩ dX11_gives_21 ?_
  refine V_aload_n dX11_gives_22 rfl ?_
  refine V_iload_n dX11_gives_23 rfl ?_
  refine V_callVF (As := [.int (zI s0)]) (b := a 0) (hb := (show (mW a (up (up (up σ 13 s0 its) 14 s0 m1) 15 s0 m2))[0]? = some (a 0, .inr (10, mF a (up (up (up σ 13 s0 its) 14 s0 m1) 15 s0 m2))) from rfl)) (hc := (show vwCl[10]? = some (RX11, TX11, 30) from rfl)) hK (c_size hE a (up (up (up σ 13 s0 its) 14 s0 m1) 15 s0 m2) s0 (kp P s0 its m1 m2) ⟨hM2, hP.kp s0 its m1 m2, hs⟩) mokX11_size w1343 w1345 wps2_15 ⟨Nat.le_of_ble_eq_true rfl, Nat.le_of_ble_eq_true rfl⟩ rfl (Nat.le_of_ble_eq_true rfl) ⟨Nat.le_refl _, Nat.le_refl _⟩ dX11_gives_24 (fun v w p_1 => ?_)
  obtain ⟨rfl, rfl⟩ := p_1
  show V K sX11_gives 0 0 (mW a (up (up (up σ 13 s0 its) 14 s0 m1) 15 s0 m2)) _ [.int (zI (sz (kp P s0 its m1 m2) s0))] 27
  refine V_iret hR rfl (Nat.le_refl _) (Nat.le_refl _) dX11_gives_27 ?_
  exact ⟨rfl, rfl⟩
set_option maxRecDepth 100000 in
set_option maxHeartbeats 4000000 in
theorem c_rooms {E : EV} (hE : Stb E) (a : Nat → Nat) (σ : St) (P : St) (hp : MI P ∧ PR P σ) : MC E yX11_rooms sX11_rooms [.ref (a 0)] (mW a σ) (fun v w => v = some (.int (zI (smv (sz P) (P 0 2)))) ∧ w = mW a σ) := by
  refine MC.of hE [some (.ref (a 0)), none, none] 2 rfl rfl rfl (by simp [Value.category]) (Nat.le_of_ble_eq_true rfl) (fun K hK hR => ?_)
  obtain ⟨hM, hP⟩ := hp
  have e0 := hP 0 (by decide) (by decide)
  have f0 : ∀ i, σ 0 i = P 0 i := fun i => by rw [e0]
  have mR := hM.1
  have mC := hM.2.1
  have mN := hM.2.2.1
  have mp := hM.pts
  have ma := hM.als
  have gR := f0 0
  have gC := f0 1
  have gN := f0 2
  have loop_4 : ∀ (n0 : Nat) (s : Int), (P 0 2 - s).toNat = n0 → (0 ≤ s ∧ s ≤ P 0 2) → V K sX11_rooms 0 0 (mW a σ) [some (.ref (a 0)), some (.int (zI (smv (sz P) s))), some (.int (zI s))] [] 4 := by
    intro n0
    induction n0 using Nat.strongRecOn with
    | _ n0 ih_4 =>
    intro s hm_4 hs
    refine V_iload_n dX11_rooms_4 rfl ?_
    refine V_aload_n dX11_rooms_5 rfl ?_
    refine mg_statements rfl dX11_rooms_6 ?_
    refine V_icmp_ge (tgt := 26) dX11_rooms_9 (by decide) ⟨⟨by omega, by omega⟩, ⟨by omega, by omega⟩⟩ (fun c_1 => ?_) (fun c_1 => ?_)
    · refine V_iload_n dX11_rooms_26 rfl ?_
      refine V_iret hR rfl (Nat.le_refl _) (Nat.le_refl _) dX11_rooms_27 ?_
      exact ⟨ziE (by rw [show s = P 0 2 by omega]), rfl⟩
    · have b := smv_s (sz P) hs.1
      refine V_iload_n dX11_rooms_12 rfl ?_
      refine V_aload_n dX11_rooms_13 rfl ?_
      refine V_iload_n dX11_rooms_14 rfl ?_
      refine V_callVF (As := [.int (zI s)]) (b := a 0) (hb := (show (mW a σ)[0]? = some (a 0, .inr (10, mF a σ)) from rfl)) (hc := (show vwCl[10]? = some (RX11, TX11, 30) from rfl)) hK (c_size hE a σ s P ⟨hM, hP, by omega, by omega⟩) mokX11_size w1343 w1345 wps2_15 ⟨Nat.le_of_ble_eq_true rfl, Nat.le_of_ble_eq_true rfl⟩ rfl (Nat.le_of_ble_eq_true rfl) ⟨Nat.le_refl _, Nat.le_refl _⟩ dX11_rooms_15 (fun v w p_2 => ?_)
      obtain ⟨rfl, rfl⟩ := p_2
      show V K sX11_rooms 0 0 (mW a σ) _ [.int (zI (sz P s)), .int (zI (smv (sz P) s))] 18
      refine V_iadd dX11_rooms_18 ?_
      refine V_istore_n (L' := [some (.ref (a 0)), some (.int (zI ((smv (sz P) s) + (sz P s)))), some (.int (zI s))]) dX11_rooms_19 (by decide) rfl ?_
      refine V_iinc (L' := [some (.ref (a 0)), some (.int (zI ((smv (sz P) s) + (sz P s)))), some (.int (zI (s + 1)))]) dX11_rooms_20 (by decide) rfl rfl ?_
      refine V_goto (tgt := 4) dX11_rooms_23 (by decide) ?_
      refine V_locE (L' := [some (.ref (a 0)), some (.int (zI (smv (sz P) (s + 1)))), some (.int (zI (s + 1)))]) (by rw [b]) ?_
      refine ih_4 _ (by omega) (s + 1) rfl ?_
      · omega
  have seg_4 : ∀ (s : Int), (0 ≤ s ∧ s ≤ P 0 2) → V K sX11_rooms 0 0 (mW a σ) [some (.ref (a 0)), some (.int (zI (smv (sz P) s))), some (.int (zI s))] [] 4 := fun s hs => loop_4 _ s rfl hs
  refine V_iconst dX11_rooms_0 ?_
  refine V_istore_n (L' := [some (.ref (a 0)), some (.int (zI 0)), none]) dX11_rooms_1 (by decide) rfl ?_
  refine V_iconst dX11_rooms_2 ?_
  refine V_istore_n (L' := [some (.ref (a 0)), some (.int (zI 0)), some (.int (zI 0))]) dX11_rooms_3 (by decide) rfl ?_
  refine V_locE (L' := [some (.ref (a 0)), some (.int (zI (smv (sz P) 0))), some (.int (zI 0))]) (rfl) ?_
  refine seg_4 0 ?_
  · omega
set_option maxRecDepth 100000 in
set_option maxHeartbeats 4000000 in
theorem c_border {E : EV} (hE : Stb E) (i0 : Int) (j0 : Int) (s0 : Int) (hp : (-100 ≤ i0 ∧ i0 ≤ 100) ∧ (-100 ≤ j0 ∧ j0 ≤ 100) ∧ (0 ≤ s0 ∧ s0 ≤ 100)) : MC E yX11_border sX11_border [.int (zI i0), .int (zI j0), .int (zI s0)] [] (fun v w => v = some (.int (zI ((5 * i0 + 7 * j0 + s0) % 100))) ∧ w = []) := by
  refine MC.of hE [some (.int (zI i0)), some (.int (zI j0)), some (.int (zI s0)), none] 1 rfl rfl rfl (by simp [Value.category]) (Nat.le_of_ble_eq_true rfl) (fun K hK hR => ?_)
  obtain ⟨h1, h2, h3⟩ := hp
  refine V_iconst dX11_border_0 ?_
  refine V_iload_n dX11_border_1 rfl ?_
  refine V_imul dX11_border_2 ?_
  refine V_bipush dX11_border_3 (by decide) ?_
  refine V_iload_n dX11_border_5 rfl ?_
  refine V_imul dX11_border_6 ?_
  refine V_iadd dX11_border_7 ?_
  refine V_iload_n dX11_border_8 rfl ?_
  refine V_iadd dX11_border_9 ?_
  refine V_bipush dX11_border_10 (by decide) ?_
  refine V_irem dX11_border_12 ⟨⟨by omega, by omega⟩, ⟨by omega, by omega⟩, by omega⟩ ?_
  have t1 := tmod_bounds (a := 5 * i0 + 7 * j0 + s0) (M := 100) (by omega)
  have t2 := Int.tmod_def (5 * i0 + 7 * j0 + s0) 100
  have t3 := Int.mul_tdiv_add_tmod (5 * i0 + 7 * j0 + s0) 100
  refine V_istore_n (L' := [some (.int (zI i0)), some (.int (zI j0)), some (.int (zI s0)), some (.int (zI (Int.tmod (((5 * i0) + (7 * j0)) + s0) 100)))]) dX11_border_13 (by decide) rfl ?_
  refine V_iload_n dX11_border_14 rfl ?_
  refine V_if_ge (tgt := 25) dX11_border_15 (by decide) ⟨by omega, by omega⟩ (fun c_1 => ?_) (fun c_1 => ?_)
  · refine V_iload_n dX11_border_25 rfl ?_
    refine V_iret hR rfl (Nat.le_refl _) (Nat.le_refl _) dX11_border_26 ?_
    exact ⟨ziE (by omega), rfl⟩
  · refine V_iload_n dX11_border_18 rfl ?_
    refine V_bipush dX11_border_19 (by decide) ?_
    refine V_iadd dX11_border_21 ?_
    refine V_goto (tgt := 26) dX11_border_22 (by decide) ?_
    refine V_iret hR rfl (Nat.le_refl _) (Nat.le_refl _) dX11_border_26 ?_
    exact ⟨ziE (by omega), rfl⟩

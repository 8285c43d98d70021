set_option maxRecDepth 100000 in
set_option maxHeartbeats 4000000 in
theorem c_most {E : EV} (hE : Stb E) (a : Nat → Nat) (σ : St) (s0 : Int) (t0 : Int) (P : St) (hp : MI P ∧ PR P σ ∧ (-1 ≤ s0 ∧ s0 < P 0 2) ∧ (-1 ≤ t0 ∧ t0 < al P)) : MC E yX11_most sX11_most [.ref (a 0), .int (zI s0), .int (zI t0)] (mW a σ) (fun v w => ∃ σ2 : St, v = some (.int (zI (if t0 < 0 then mxv (lvN P (P 0 11) (P 0 12) (selS P s0)) (al P) else lvN P (P 0 11) (P 0 12) (selS P s0) t0))) ∧ w = mW a σ2 ∧ (fr [16, 17, 18, 19, 23] σ σ2)) := by
  refine MC.of hE [some (.ref (a 0)), some (.int (zI s0)), some (.int (zI t0)), none, none, none] 3 rfl rfl rfl (by simp [Value.category]) (Nat.le_of_ble_eq_true rfl) (fun K hK hR => ?_)
  obtain ⟨hM, hP, hp⟩ := hp
  have e0 := hP 0 (by decide) (by decide)
  have f0 : ∀ i, σ 0 i = P 0 i := fun i => by rw [e0]
  have mR := hM.1
  have mC := hM.2.1
  have mN := hM.2.2.1
  have mp := hM.pts
  have ma := hM.als
  have gR := f0 0
  have gC := f0 1
  have gN := f0 2
  obtain ⟨hs0, ht0⟩ := hp
  have loop_101 : ∀ (n0 : Nat) (t : Int) (now : Int) (mo : Int) (σ1 : St), (al P - t).toNat = n0 → (0 ≤ t ∧ t ≤ al P) → (fr [16, 17, 18, 19, 23] σ σ1) → (∀ x, 0 ≤ x → x ≤ 256 → σ1 23 x = lvA P (P 0 11) (P 0 12) (selS P s0) x) → (now = lvS P (P 0 11) (P 0 12) (selS P s0) (t - 1)) → (mo = if t0 < 0 then mxv (lvN P (P 0 11) (P 0 12) (selS P s0)) t else if t0 < t then lvN P (P 0 11) (P 0 12) (selS P s0) t0 else 0) → V K sX11_most 0 0 (mW a σ1) [some (.ref (a 0)), some (.int (zI s0)), some (.int (zI t0)), some (.int (zI now)), some (.int (zI mo)), some (.int (zI t))] [] 101 := by
    intro n0
    induction n0 using Nat.strongRecOn with
    | _ n0 ih_101 =>
    intro t now mo σ1 hm_101 ht hf hc hn hm
    refine V_iload dX11_most_101 rfl ?_
    refine V_aload_n dX11_most_103 rfl ?_
    refine V_callVF (As := []) (b := a 0) (hb := (show (mW a σ1)[0]? = some (a 0, .inr (10, mF a σ1)) from rfl)) (hc := (show vwCl[10]? = some (RX11, TX11, 30) from rfl)) hK (c_all hE a σ1 P ⟨hM, (hP.fr hf (by decide))⟩) mokX11_all w1211 w1213 wps1_13 ⟨Nat.le_of_ble_eq_true rfl, Nat.le_of_ble_eq_true rfl⟩ rfl (Nat.le_of_ble_eq_true rfl) ⟨Nat.le_refl _, Nat.le_refl _⟩ dX11_most_104 (fun v w p_1 => ?_)
    obtain ⟨rfl, rfl⟩ := p_1
    show V K sX11_most 0 0 (mW a σ1) _ [.int (zI (al P)), .int (zI t)] 107
    refine V_icmp_ge (tgt := 150) dX11_most_107 (by decide) ⟨⟨by omega, by omega⟩, ⟨by omega, by omega⟩⟩ (fun c_2 => ?_) (fun c_2 => ?_)
    · refine V_iload dX11_most_150 rfl ?_
      refine V_iret hR rfl (Nat.le_refl _) (Nat.le_refl _) dX11_most_152 ?_
      have hv : mo = (if t0 < 0 then mxv (lvN P (P 0 11) (P 0 12) (selS P s0)) (al P) else lvN P (P 0 11) (P 0 12) (selS P s0) t0) := by
        rw [hm, show t = al P by omega]
        simp only [if_pos (show t0 < al P by omega)]
      exact ⟨σ1, ziE hv, rfl, hf⟩
    · refine V_iload_n dX11_most_110 rfl ?_
      refine V_aload_n dX11_most_111 rfl ?_
      refine mg_change rfl dX11_most_112 ?_
      refine V_iload dX11_most_115 rfl ?_
      refine ml_change ⟨by omega, by omega⟩ dX11_most_117 ?_
      refine V_iadd dX11_most_118 ?_
      have kS := lvS_s hM (bw := P 0 11) (cw := P 0 12) (sel := selS P s0) t
      have kN := lvS_N hM (bw := P 0 11) (cw := P 0 12) (sel := selS P s0) t
      have kb := lvN_b hM (bw := P 0 11) (cw := P 0 12) (sel := selS P s0) t
      have km := mxv_b (f := lvN P (P 0 11) (P 0 12) (selS P s0)) (B := 256) (by omega) t ht.1 (fun j _ _ => (lvN_b hM j).2)
      have kmo : 0 ≤ mo ∧ mo ≤ 256 := by rw [hm]; split; exact km; split; exact lvN_b hM t0; omega
      refine V_eqT (y := zI (lvN P (P 0 11) (P 0 12) (selS P s0) t)) (by rw [hc t (by omega) (by omega), hn, ← kS, kN]) ?_
      refine V_istore_n (L' := [some (.ref (a 0)), some (.int (zI s0)), some (.int (zI t0)), some (.int (zI (lvN P (P 0 11) (P 0 12) (selS P s0) t))), some (.int (zI mo)), some (.int (zI t))]) dX11_most_119 (by decide) rfl ?_
      refine V_iload_n dX11_most_120 rfl ?_
      refine V_if_ge (tgt := 130) dX11_most_121 (by decide) ⟨by omega, by omega⟩ (fun c_3 => ?_) (fun c_3 => ?_)
      · refine V_iload_n dX11_most_130 rfl ?_
        refine V_iload dX11_most_131 rfl ?_
        refine V_icmp_ne (tgt := 140) dX11_most_133 (by decide) ⟨⟨by omega, by omega⟩, ⟨by omega, by omega⟩⟩ (fun c_4 => ?_) (fun c_4 => ?_)
        · refine V_iload dX11_most_140 rfl ?_
          refine V_istore (L' := [some (.ref (a 0)), some (.int (zI s0)), some (.int (zI t0)), some (.int (zI (lvN P (P 0 11) (P 0 12) (selS P s0) t))), some (.int (zI mo)), some (.int (zI t))]) dX11_most_142 (by decide) rfl ?_
          refine V_iinc (L' := [some (.ref (a 0)), some (.int (zI s0)), some (.int (zI t0)), some (.int (zI (lvN P (P 0 11) (P 0 12) (selS P s0) t))), some (.int (zI mo)), some (.int (zI (t + 1)))]) dX11_most_144 (by decide) rfl rfl ?_
          refine V_goto (tgt := 101) dX11_most_147 (by decide) ?_
          refine ih_101 _ (by omega) (t + 1) (lvN P (P 0 11) (P 0 12) (selS P s0) t) mo σ1 rfl ?_ ?_ ?_ ?_ ?_
          · omega
          · exact hf
          · exact hc
          · rw [show t + 1 - 1 = t by omega, kN]
          · have h0 : ¬ t0 < 0 := by omega
            rw [hm]
            simp only [if_neg h0]
            by_cases e : t0 < t
            · rw [if_pos e, if_pos (by omega)]
            · rw [if_neg e, if_neg (by omega)]
        · refine V_iload_n dX11_most_136 rfl ?_
          refine V_goto (tgt := 142) dX11_most_137 (by decide) ?_
          refine V_istore (L' := [some (.ref (a 0)), some (.int (zI s0)), some (.int (zI t0)), some (.int (zI (lvN P (P 0 11) (P 0 12) (selS P s0) t))), some (.int (zI (lvN P (P 0 11) (P 0 12) (selS P s0) t))), some (.int (zI t))]) dX11_most_142 (by decide) rfl ?_
          refine V_iinc (L' := [some (.ref (a 0)), some (.int (zI s0)), some (.int (zI t0)), some (.int (zI (lvN P (P 0 11) (P 0 12) (selS P s0) t))), some (.int (zI (lvN P (P 0 11) (P 0 12) (selS P s0) t))), some (.int (zI (t + 1)))]) dX11_most_144 (by decide) rfl rfl ?_
          refine V_goto (tgt := 101) dX11_most_147 (by decide) ?_
          refine ih_101 _ (by omega) (t + 1) (lvN P (P 0 11) (P 0 12) (selS P s0) t) (lvN P (P 0 11) (P 0 12) (selS P s0) t) σ1 rfl ?_ ?_ ?_ ?_ ?_
          · omega
          · exact hf
          · exact hc
          · rw [show t + 1 - 1 = t by omega, kN]
          · rw [if_neg (by omega), if_pos (by omega), show t0 = t by omega]
      · refine V_iload_n dX11_most_124 rfl ?_
        refine V_iload dX11_most_125 rfl ?_
        refine V_icmp_gt (tgt := 136) dX11_most_127 (by decide) ⟨⟨by omega, by omega⟩, ⟨by omega, by omega⟩⟩ (fun c_5 => ?_) (fun c_5 => ?_)
        · refine V_iload_n dX11_most_136 rfl ?_
          refine V_goto (tgt := 142) dX11_most_137 (by decide) ?_
          refine V_istore (L' := [some (.ref (a 0)), some (.int (zI s0)), some (.int (zI t0)), some (.int (zI (lvN P (P 0 11) (P 0 12) (selS P s0) t))), some (.int (zI (lvN P (P 0 11) (P 0 12) (selS P s0) t))), some (.int (zI t))]) dX11_most_142 (by decide) rfl ?_
          refine V_iinc (L' := [some (.ref (a 0)), some (.int (zI s0)), some (.int (zI t0)), some (.int (zI (lvN P (P 0 11) (P 0 12) (selS P s0) t))), some (.int (zI (lvN P (P 0 11) (P 0 12) (selS P s0) t))), some (.int (zI (t + 1)))]) dX11_most_144 (by decide) rfl rfl ?_
          refine V_goto (tgt := 101) dX11_most_147 (by decide) ?_
          refine ih_101 _ (by omega) (t + 1) (lvN P (P 0 11) (P 0 12) (selS P s0) t) (lvN P (P 0 11) (P 0 12) (selS P s0) t) σ1 rfl ?_ ?_ ?_ ?_ ?_
          · omega
          · exact hf
          · exact hc
          · rw [show t + 1 - 1 = t by omega, kN]
          · rw [if_pos c_3] at hm; rw [if_pos c_3, mxv_s _ ht.1, if_pos (by omega)]
        · refine V_iload_n dX11_most_130 rfl ?_
          refine V_iload dX11_most_131 rfl ?_
          refine V_icmp_ne (tgt := 140) dX11_most_133 (by decide) ⟨⟨by omega, by omega⟩, ⟨by omega, by omega⟩⟩ (fun c_6 => ?_) (fun c_6 => ?_)
          · refine V_iload dX11_most_140 rfl ?_
            refine V_istore (L' := [some (.ref (a 0)), some (.int (zI s0)), some (.int (zI t0)), some (.int (zI (lvN P (P 0 11) (P 0 12) (selS P s0) t))), some (.int (zI mo)), some (.int (zI t))]) dX11_most_142 (by decide) rfl ?_
            refine V_iinc (L' := [some (.ref (a 0)), some (.int (zI s0)), some (.int (zI t0)), some (.int (zI (lvN P (P 0 11) (P 0 12) (selS P s0) t))), some (.int (zI mo)), some (.int (zI (t + 1)))]) dX11_most_144 (by decide) rfl rfl ?_
            refine V_goto (tgt := 101) dX11_most_147 (by decide) ?_
            refine ih_101 _ (by omega) (t + 1) (lvN P (P 0 11) (P 0 12) (selS P s0) t) mo σ1 rfl ?_ ?_ ?_ ?_ ?_
            · omega
            · exact hf
            · exact hc
            · rw [show t + 1 - 1 = t by omega, kN]
            · rw [if_pos c_3] at hm; rw [if_pos c_3, mxv_s _ ht.1, if_neg (by omega)]; exact hm
          · refine V_iload_n dX11_most_136 rfl ?_
            refine V_goto (tgt := 142) dX11_most_137 (by decide) ?_
            refine V_istore (L' := [some (.ref (a 0)), some (.int (zI s0)), some (.int (zI t0)), some (.int (zI (lvN P (P 0 11) (P 0 12) (selS P s0) t))), some (.int (zI (lvN P (P 0 11) (P 0 12) (selS P s0) t))), some (.int (zI t))]) dX11_most_142 (by decide) rfl ?_
            refine V_iinc (L' := [some (.ref (a 0)), some (.int (zI s0)), some (.int (zI t0)), some (.int (zI (lvN P (P 0 11) (P 0 12) (selS P s0) t))), some (.int (zI (lvN P (P 0 11) (P 0 12) (selS P s0) t))), some (.int (zI (t + 1)))]) dX11_most_144 (by decide) rfl rfl ?_
            refine V_goto (tgt := 101) dX11_most_147 (by decide) ?_
            refine ih_101 _ (by omega) (t + 1) (lvN P (P 0 11) (P 0 12) (selS P s0) t) (lvN P (P 0 11) (P 0 12) (selS P s0) t) σ1 rfl ?_ ?_ ?_ ?_ ?_
            · omega
            · exact hf
            · exact hc
            · rw [show t + 1 - 1 = t by omega, kN]
            · omega
  have seg_101 : ∀ (t : Int) (now : Int) (mo : Int) (σ1 : St), (0 ≤ t ∧ t ≤ al P) → (fr [16, 17, 18, 19, 23] σ σ1) → (∀ x, 0 ≤ x → x ≤ 256 → σ1 23 x = lvA P (P 0 11) (P 0 12) (selS P s0) x) → (now = lvS P (P 0 11) (P 0 12) (selS P s0) (t - 1)) → (mo = if t0 < 0 then mxv (lvN P (P 0 11) (P 0 12) (selS P s0)) t else if t0 < t then lvN P (P 0 11) (P 0 12) (selS P s0) t0 else 0) → V K sX11_most 0 0 (mW a σ1) [some (.ref (a 0)), some (.int (zI s0)), some (.int (zI t0)), some (.int (zI now)), some (.int (zI mo)), some (.int (zI t))] [] 101 := fun t now mo σ1 ht hf hc hn hm => loop_101 _ t now mo σ1 rfl ht hf hc hn hm
  have loop_28 : ∀ (n0 : Nat) (t : Int) (σ1 : St), (al P - t).toNat = n0 → (0 ≤ t ∧ t ≤ al P) → (fr [16, 17, 18, 19, 23] σ σ1) → (Dealt P (P 0 11) (P 0 12) σ1) → (Lived P (P 0 11) (P 0 12) σ1) → (∀ x, 0 ≤ x → x ≤ 257 → σ1 23 x = ct (fun y => selS P s0 (ac P (P 0 11) (P 0 12) y) && decide (y + 1 = x)) t - ct (fun y => selS P s0 (ac P (P 0 11) (P 0 12) y) && decide (en P (P 0 11) (P 0 12) (ac P (P 0 11) (P 0 12) y) + 1 = x)) t) → V K sX11_most 0 0 (mW a σ1) [some (.ref (a 0)), some (.int (zI s0)), some (.int (zI t0)), some (.int (zI t)), none, none] [] 28 := by
    intro n0
    induction n0 using Nat.strongRecOn with
    | _ n0 ih_28 =>
    intro t σ1 hm_28 ht hf hD hL hc
    refine V_iload_n dX11_most_28 rfl ?_
    refine V_aload_n dX11_most_29 rfl ?_
    refine V_callVF (As := []) (b := a 0) (hb := (show (mW a σ1)[0]? = some (a 0, .inr (10, mF a σ1)) from rfl)) (hc := (show vwCl[10]? = some (RX11, TX11, 30) from rfl)) hK (c_all hE a σ1 P ⟨hM, (hP.fr hf (by decide))⟩) mokX11_all w1211 w1213 wps1_13 ⟨Nat.le_of_ble_eq_true rfl, Nat.le_of_ble_eq_true rfl⟩ rfl (Nat.le_of_ble_eq_true rfl) ⟨Nat.le_refl _, Nat.le_refl _⟩ dX11_most_30 (fun v w p_7 => ?_)
    obtain ⟨rfl, rfl⟩ := p_7
    show V K sX11_most 0 0 (mW a σ1) _ [.int (zI (al P)), .int (zI t)] 33
    refine V_icmp_ge (tgt := 93) dX11_most_33 (by decide) ⟨⟨by omega, by omega⟩, ⟨by omega, by omega⟩⟩ (fun c_8 => ?_) (fun c_8 => ?_)
    · refine V_iconst dX11_most_93 ?_
      refine V_istore_n (L' := [some (.ref (a 0)), some (.int (zI s0)), some (.int (zI t0)), some (.int (zI 0)), none, none]) dX11_most_94 (by decide) rfl ?_
      refine V_iconst dX11_most_95 ?_
      refine V_istore (L' := [some (.ref (a 0)), some (.int (zI s0)), some (.int (zI t0)), some (.int (zI 0)), some (.int (zI 0)), none]) dX11_most_96 (by decide) rfl ?_
      refine V_iconst dX11_most_98 ?_
      refine V_istore (L' := [some (.ref (a 0)), some (.int (zI s0)), some (.int (zI t0)), some (.int (zI 0)), some (.int (zI 0)), some (.int (zI 0))]) dX11_most_99 (by decide) rfl ?_
      refine seg_101 0 0 0 σ1 ?_ ?_ ?_ ?_ ?_
      · omega
      · exact hf
      · intro x a b
        rw [hc x a (by omega), show t = al P by omega, ct_ac ma.1 (fun k => selS P s0 k && decide (en P (P 0 11) (P 0 12) k + 1 = x)), lvA, ← ct_ac (bw := P 0 11) (cw := P 0 12) ma.1 (fun k => selS P s0 k && decide (bt P (P 0 11) (P 0 12) k + 1 = x))]
        congr 1
        exact ct_congr _ ma.1 (fun j c d => by rw [(ac_spec (bw := P 0 11) (cw := P 0 12) c d).2.2])
      · exact (lvS_0 hM).symm
      · split
        · rfl
        · first | rfl | rw [if_neg (by omega)]
    · have ka := hD.at ht.1 (show t < al P by omega)
      have kc := ac_spec (bw := P 0 11) (cw := P 0 12) ht.1 (show t < al P by omega)
      have kd := cid_b hM kc.1 kc.2.1
      have kl := hL _ kc.1 kc.2.1
      have ke := en_b (bw := P 0 11) (cw := P 0 12) kc.1 kc.2.1
      have kf := cell_st hM kc.1 kc.2.1
      refine V_aload_n dX11_most_36 rfl ?_
      refine mg_cellAt rfl dX11_most_37 ?_
      refine V_iload_n dX11_most_40 rfl ?_
      refine ml_cellAt ⟨by omega, by omega⟩ dX11_most_41 ?_
      refine V_eqT (y := zI (cid P (ac P (P 0 11) (P 0 12) t))) (by rw [ka]) ?_
      refine V_istore (L' := [some (.ref (a 0)), some (.int (zI s0)), some (.int (zI t0)), some (.int (zI t)), some (.int (zI (cid P (ac P (P 0 11) (P 0 12) t)))), none]) dX11_most_42 (by decide) rfl ?_
      refine V_iload_n dX11_most_44 rfl ?_
      refine V_if_lt (tgt := 57) dX11_most_45 (by decide) ⟨by omega, by omega⟩ (fun c_9 => ?_) (fun c_9 => ?_)
      · refine V_aload_n dX11_most_57 rfl ?_
        refine mg_change rfl dX11_most_58 ?_
        refine V_iload_n dX11_most_61 rfl ?_
        refine V_iconst dX11_most_62 ?_
        refine V_iadd dX11_most_63 ?_
        refine V_dup2 dX11_most_64 rfl rfl ?_
        refine ml_change ⟨by omega, by omega⟩ dX11_most_65 ?_
        refine V_iconst dX11_most_66 ?_
        refine V_iadd dX11_most_67 ?_
        refine ms_change ⟨by omega, by omega⟩ dX11_most_68 ?_
        refine V_aload_n dX11_most_69 rfl ?_
        refine mg_change rfl dX11_most_70 ?_
        refine V_aload_n dX11_most_73 rfl ?_
        refine mg_end rfl dX11_most_74 ?_
        refine V_iload dX11_most_77 rfl ?_
        refine ml_end ⟨by omega, by omega⟩ dX11_most_79 ?_
        refine V_eqT (y := zI (en P (P 0 11) (P 0 12) (ac P (P 0 11) (P 0 12) t))) (by rw [← kl]; rfl) ?_
        refine V_iconst dX11_most_80 ?_
        refine V_iadd dX11_most_81 ?_
        refine V_dup2 dX11_most_82 rfl rfl ?_
        refine ml_change ⟨by omega, by omega⟩ dX11_most_83 ?_
        refine V_iconst dX11_most_84 ?_
        refine V_isub dX11_most_85 ?_
        refine ms_change ⟨by omega, by omega⟩ dX11_most_86 ?_
        refine V_iinc (L' := [some (.ref (a 0)), some (.int (zI s0)), some (.int (zI t0)), some (.int (zI (t + 1))), some (.int (zI (cid P (ac P (P 0 11) (P 0 12) t)))), none]) dX11_most_87 (by decide) rfl rfl ?_
        refine V_goto (tgt := 28) dX11_most_90 (by decide) ?_
        refine V_mask (L' := [some (.ref (a 0)), some (.int (zI s0)), some (.int (zI t0)), some (.int (zI (t + 1))), none, none]) [true, true, true, true, false, false] rfl ?_
        refine ih_28 _ (by omega) (t + 1) (up (up σ1 23 (t + 1) ((σ1 23 (t + 1)) + 1)) 23 ((en P (P 0 11) (P 0 12) (ac P (P 0 11) (P 0 12) t)) + 1) (((up σ1 23 (t + 1) ((σ1 23 (t + 1)) + 1)) 23 ((en P (P 0 11) (P 0 12) (ac P (P 0 11) (P 0 12) t)) + 1)) - 1)) rfl ?_ ?_ ?_ ?_ ?_
        · omega
        · exact (hf.upd (by decide)).upd (by decide)
        · exact hD
        · exact hL
        · intro x a b
          rw [ct_s _ ht.1, ct_s _ ht.1, show selS P s0 (ac P (P 0 11) (P 0 12) t) = true from decide_eq_true (Or.inl c_9), Bool.true_and, Bool.true_and]
          exact chg (hc x a b)
      · refine V_iload dX11_most_48 rfl ?_
        refine V_bipush dX11_most_50 (by decide) ?_
        refine V_idiv dX11_most_52 ⟨⟨by omega, by omega⟩, ⟨by omega, by omega⟩, by omega, by omega⟩ ?_
        refine V_eqT (y := zI (ac P (P 0 11) (P 0 12) t / pt P)) (by rw [kd.2.1]) ?_
        refine V_iload_n dX11_most_53 rfl ?_
        refine V_icmp_ne (tgt := 87) dX11_most_54 (by decide) ⟨⟨by omega, by omega⟩, ⟨by omega, by omega⟩⟩ (fun c_10 => ?_) (fun c_10 => ?_)
        · refine V_iinc (L' := [some (.ref (a 0)), some (.int (zI s0)), some (.int (zI t0)), some (.int (zI (t + 1))), some (.int (zI (cid P (ac P (P 0 11) (P 0 12) t)))), none]) dX11_most_87 (by decide) rfl rfl ?_
          refine V_goto (tgt := 28) dX11_most_90 (by decide) ?_
          refine V_mask (L' := [some (.ref (a 0)), some (.int (zI s0)), some (.int (zI t0)), some (.int (zI (t + 1))), none, none]) [true, true, true, true, false, false] rfl ?_
          refine ih_28 _ (by omega) (t + 1) σ1 rfl ?_ ?_ ?_ ?_ ?_
          · omega
          · exact hf
          · exact hD
          · exact hL
          · intro x a b
            rw [ct_s _ ht.1, ct_s _ ht.1, show selS P s0 (ac P (P 0 11) (P 0 12) t) = false from decide_eq_false (by omega), Bool.false_and, Bool.false_and, hc x a b]; simp [bz]
        · refine V_aload_n dX11_most_57 rfl ?_
          refine mg_change rfl dX11_most_58 ?_
          refine V_iload_n dX11_most_61 rfl ?_
          refine V_iconst dX11_most_62 ?_
          refine V_iadd dX11_most_63 ?_
          refine V_dup2 dX11_most_64 rfl rfl ?_
          refine ml_change ⟨by omega, by omega⟩ dX11_most_65 ?_
          refine V_iconst dX11_most_66 ?_
          refine V_iadd dX11_most_67 ?_
          refine ms_change ⟨by omega, by omega⟩ dX11_most_68 ?_
          refine V_aload_n dX11_most_69 rfl ?_
          refine mg_change rfl dX11_most_70 ?_
          refine V_aload_n dX11_most_73 rfl ?_
          refine mg_end rfl dX11_most_74 ?_
          refine V_iload dX11_most_77 rfl ?_
          refine ml_end ⟨by omega, by omega⟩ dX11_most_79 ?_
          refine V_eqT (y := zI (en P (P 0 11) (P 0 12) (ac P (P 0 11) (P 0 12) t))) (by rw [← kl]; rfl) ?_
          refine V_iconst dX11_most_80 ?_
          refine V_iadd dX11_most_81 ?_
          refine V_dup2 dX11_most_82 rfl rfl ?_
          refine ml_change ⟨by omega, by omega⟩ dX11_most_83 ?_
          refine V_iconst dX11_most_84 ?_
          refine V_isub dX11_most_85 ?_
          refine ms_change ⟨by omega, by omega⟩ dX11_most_86 ?_
          refine V_iinc (L' := [some (.ref (a 0)), some (.int (zI s0)), some (.int (zI t0)), some (.int (zI (t + 1))), some (.int (zI (cid P (ac P (P 0 11) (P 0 12) t)))), none]) dX11_most_87 (by decide) rfl rfl ?_
          refine V_goto (tgt := 28) dX11_most_90 (by decide) ?_
          refine V_mask (L' := [some (.ref (a 0)), some (.int (zI s0)), some (.int (zI t0)), some (.int (zI (t + 1))), none, none]) [true, true, true, true, false, false] rfl ?_
          refine ih_28 _ (by omega) (t + 1) (up (up σ1 23 (t + 1) ((σ1 23 (t + 1)) + 1)) 23 ((en P (P 0 11) (P 0 12) (ac P (P 0 11) (P 0 12) t)) + 1) (((up σ1 23 (t + 1) ((σ1 23 (t + 1)) + 1)) 23 ((en P (P 0 11) (P 0 12) (ac P (P 0 11) (P 0 12) t)) + 1)) - 1)) rfl ?_ ?_ ?_ ?_ ?_
          · omega
          · exact (hf.upd (by decide)).upd (by decide)
          · exact hD
          · exact hL
          · intro x a b
            rw [ct_s _ ht.1, ct_s _ ht.1, show selS P s0 (ac P (P 0 11) (P 0 12) t) = true from decide_eq_true (Or.inr c_10), Bool.true_and, Bool.true_and]
            exact chg (hc x a b)
  have seg_28 : ∀ (t : Int) (σ1 : St), (0 ≤ t ∧ t ≤ al P) → (fr [16, 17, 18, 19, 23] σ σ1) → (Dealt P (P 0 11) (P 0 12) σ1) → (Lived P (P 0 11) (P 0 12) σ1) → (∀ x, 0 ≤ x → x ≤ 257 → σ1 23 x = ct (fun y => selS P s0 (ac P (P 0 11) (P 0 12) y) && decide (y + 1 = x)) t - ct (fun y => selS P s0 (ac P (P 0 11) (P 0 12) y) && decide (en P (P 0 11) (P 0 12) (ac P (P 0 11) (P 0 12) y) + 1 = x)) t) → V K sX11_most 0 0 (mW a σ1) [some (.ref (a 0)), some (.int (zI s0)), some (.int (zI t0)), some (.int (zI t)), none, none] [] 28 := fun t σ1 ht hf hD hL hc => loop_28 _ t σ1 rfl ht hf hD hL hc
  have loop_6 : ∀ (n0 : Nat) (u : Int) (σ1 : St), (258 - u).toNat = n0 → (0 ≤ u ∧ u ≤ 258) → (fr [16, 17, 18, 19, 23] σ σ1) → (Dealt P (P 0 11) (P 0 12) σ1) → (Lived P (P 0 11) (P 0 12) σ1) → (∀ x, 0 ≤ x → x < u → σ1 23 x = 0) → V K sX11_most 0 0 (mW a σ1) [some (.ref (a 0)), some (.int (zI s0)), some (.int (zI t0)), some (.int (zI u)), none, none] [] 6 := by
    intro n0
    induction n0 using Nat.strongRecOn with
    | _ n0 ih_6 =>
    intro u σ1 hm_6 hu hf hD hL hz
    refine V_iload_n dX11_most_6 rfl ?_
    refine V_sipush dX11_most_7 (by decide) ?_
    refine V_icmp_ge (tgt := 26) dX11_most_10 (by decide) ⟨⟨by omega, by omega⟩, ⟨by omega, by omega⟩⟩ (fun c_11 => ?_) (fun c_11 => ?_)
    · refine V_iconst dX11_most_26 ?_
      refine V_istore_n (L' := [some (.ref (a 0)), some (.int (zI s0)), some (.int (zI t0)), some (.int (zI 0)), none, none]) dX11_most_27 (by decide) rfl ?_
      refine seg_28 0 σ1 ?_ ?_ ?_ ?_ ?_
      · omega
      · exact hf
      · exact hD
      · exact hL
      · intro x a b
        rw [hz x a (by omega), ct_0 _ (by omega), ct_0 _ (by omega)]; rfl
    · refine V_aload_n dX11_most_13 rfl ?_
      refine mg_change rfl dX11_most_14 ?_
      refine V_iload_n dX11_most_17 rfl ?_
      refine V_iconst dX11_most_18 ?_
      refine ms_change ⟨by omega, by omega⟩ dX11_most_19 ?_
      refine V_iinc (L' := [some (.ref (a 0)), some (.int (zI s0)), some (.int (zI t0)), some (.int (zI (u + 1))), none, none]) dX11_most_20 (by decide) rfl rfl ?_
      refine V_goto (tgt := 6) dX11_most_23 (by decide) ?_
      refine ih_6 _ (by omega) (u + 1) (up σ1 23 u 0) rfl ?_ ?_ ?_ ?_ ?_
      · omega
      · exact hf.upd (by decide)
      · exact hD
      · exact hL
      · intro x a b
        rw [up_eq]
        by_cases e : x = u
        · rw [e, fup_eq]
        · rw [fup_ne e]; exact hz x a (by omega)
  have seg_6 : ∀ (u : Int) (σ1 : St), (0 ≤ u ∧ u ≤ 258) → (fr [16, 17, 18, 19, 23] σ σ1) → (Dealt P (P 0 11) (P 0 12) σ1) → (Lived P (P 0 11) (P 0 12) σ1) → (∀ x, 0 ≤ x → x < u → σ1 23 x = 0) → V K sX11_most 0 0 (mW a σ1) [some (.ref (a 0)), some (.int (zI s0)), some (.int (zI t0)), some (.int (zI u)), none, none] [] 6 := fun u σ1 hu hf hD hL hz => loop_6 _ u σ1 rfl hu hf hD hL hz
  refine V_aload_n dX11_most_0 rfl ?_
  refine V_callVF (As := []) (b := a 0) (hb := (show (mW a σ)[0]? = some (a 0, .inr (10, mF a σ)) from rfl)) (hc := (show vwCl[10]? = some (RX11, TX11, 30) from rfl)) hK (c_finds hE a σ P ⟨hM, hP⟩) mokX11_finds w1295 w1297 wps2_9 ⟨Nat.le_of_ble_eq_true rfl, Nat.le_of_ble_eq_true rfl⟩ rfl (Nat.le_of_ble_eq_true rfl) ⟨Nat.le_refl _, Nat.le_refl _⟩ dX11_most_1 (fun v w p_12 => ?_)
  obtain ⟨σ_13, rfl, rfl, q_14, q_15, q_16⟩ := p_12
  show V K sX11_most 0 0 (mW a σ_13) _ [] 4
  refine V_iconst dX11_most_4 ?_
  refine V_istore_n (L' := [some (.ref (a 0)), some (.int (zI s0)), some (.int (zI t0)), some (.int (zI 0)), none, none]) dX11_most_5 (by decide) rfl ?_
  refine seg_6 0 σ_13 ?_ ?_ ?_ ?_ ?_
  · omega
  · exact q_14.mono (by decide)
  · exact q_15
  · exact q_16
  · intro x a b; omega
set_option maxRecDepth 100000 in
set_option maxHeartbeats 4000000 in
theorem c_areInConflict {E : EV} (hE : Stb E) (a : Nat → Nat) (σ : St) (ia : Int) (ib : Int) (P : St) (bw cw ka kb : Int) (hp : MI P ∧ PR P σ ∧ Dealt P bw cw σ ∧ Lived P bw cw σ ∧ (0 ≤ ka ∧ ka < al P) ∧ (0 ≤ kb ∧ kb < al P) ∧ ia = cid P ka ∧ ib = cid P kb) : MC E yX11_areInConflict sX11_areInConflict [.ref (a 0), .int (zI ia), .int (zI ib)] (mW a σ) (fun v w => v = some (.int (zI (bz (cf P bw cw ka kb)))) ∧ w = mW a σ) := by
  refine MC.of hE [some (.ref (a 0)), some (.int (zI ia)), some (.int (zI ib))] 0 rfl rfl rfl (by simp [Value.category]) (Nat.le_of_ble_eq_true rfl) (fun K hK hR => ?_)
  obtain ⟨hM, hP, hp⟩ := hp
  have e0 := hP 0 (by decide) (by decide)
  have f0 : ∀ i, σ 0 i = P 0 i := fun i => by rw [e0]
  have mR := hM.1
  have mC := hM.2.1
  have mN := hM.2.2.1
  have mp := hM.pts
  have ma := hM.als
  have gR := f0 0
  have gC := f0 1
  have gN := f0 2
  obtain ⟨hD, hL, h1, h2, hia, hib⟩ := hp
  have k1 : σ 17 ia = bt P bw cw ka := by rw [hia]; exact hD.1 ka h1.1 h1.2
  have k2 : σ 17 ib = bt P bw cw kb := by rw [hib]; exact hD.1 kb h2.1 h2.2
  have k3 : σ 19 ia = en P bw cw ka := by rw [hia]; exact hL ka h1.1 h1.2
  have k4 : σ 19 ib = en P bw cw kb := by rw [hib]; exact hL kb h2.1 h2.2
  have d1 := cid_b hM h1.1 h1.2
  have d2 := cid_b hM h2.1 h2.2
  have b1 := bt_b (bw := bw) (cw := cw) h1.1 h1.2
  have b2 := bt_b (bw := bw) (cw := cw) h2.1 h2.2
  have b3 := en_b (bw := bw) (cw := cw) h1.1 h1.2
  have b4 := en_b (bw := bw) (cw := cw) h2.1 h2.2
  refine V_aload_n dX11_areInConflict_0 rfl ?_
  refine mg_step rfl dX11_areInConflict_1 ?_
  refine V_iload_n dX11_areInConflict_4 rfl ?_
  refine ml_step ⟨by omega, by omega⟩ dX11_areInConflict_5 ?_
  refine V_aload_n dX11_areInConflict_6 rfl ?_
  refine mg_step rfl dX11_areInConflict_7 ?_
  refine V_iload_n dX11_areInConflict_10 rfl ?_
  refine ml_step ⟨by omega, by omega⟩ dX11_areInConflict_11 ?_
  refine V_icmp_ge (tgt := 30) dX11_areInConflict_12 (by decide) ⟨⟨by omega, by omega⟩, ⟨by omega, by omega⟩⟩ (fun c_1 => ?_) (fun c_1 => ?_)
  · refine V_aload_n dX11_areInConflict_30 rfl ?_
    refine mg_step rfl dX11_areInConflict_31 ?_
    refine V_iload_n dX11_areInConflict_34 rfl ?_
    refine ml_step ⟨by omega, by omega⟩ dX11_areInConflict_35 ?_
    refine V_aload_n dX11_areInConflict_36 rfl ?_
    refine mg_step rfl dX11_areInConflict_37 ?_
    refine V_iload_n dX11_areInConflict_40 rfl ?_
    refine ml_step ⟨by omega, by omega⟩ dX11_areInConflict_41 ?_
    refine V_icmp_ge (tgt := 64) dX11_areInConflict_42 (by decide) ⟨⟨by omega, by omega⟩, ⟨by omega, by omega⟩⟩ (fun c_2 => ?_) (fun c_2 => ?_)
    · refine V_iconst dX11_areInConflict_64 ?_
      show V K sX11_areInConflict 0 0 (mW a σ) _ [.int (zI (bz false))] 65
      refine V_zret hR rfl (Nat.le_refl _) (Nat.le_refl _) dX11_areInConflict_65 ?_
      exact ⟨bzE (cf_f (by omega)), rfl⟩
    · refine V_aload_n dX11_areInConflict_45 rfl ?_
      refine mg_step rfl dX11_areInConflict_46 ?_
      refine V_iload_n dX11_areInConflict_49 rfl ?_
      refine ml_step ⟨by omega, by omega⟩ dX11_areInConflict_50 ?_
      refine V_aload_n dX11_areInConflict_51 rfl ?_
      refine mg_end rfl dX11_areInConflict_52 ?_
      refine V_iload_n dX11_areInConflict_55 rfl ?_
      refine ml_end ⟨by omega, by omega⟩ dX11_areInConflict_56 ?_
      refine V_icmp_ge (tgt := 64) dX11_areInConflict_57 (by decide) ⟨⟨by omega, by omega⟩, ⟨by omega, by omega⟩⟩ (fun c_3 => ?_) (fun c_3 => ?_)
      · refine V_iconst dX11_areInConflict_64 ?_
        show V K sX11_areInConflict 0 0 (mW a σ) _ [.int (zI (bz false))] 65
        refine V_zret hR rfl (Nat.le_refl _) (Nat.le_refl _) dX11_areInConflict_65 ?_
        exact ⟨bzE (cf_f (by omega)), rfl⟩
      · refine V_iconst dX11_areInConflict_60 ?_
        refine V_goto (tgt := 65) dX11_areInConflict_61 (by decide) ?_
        show V K sX11_areInConflict 0 0 (mW a σ) _ [.int (zI (bz true))] 65
        refine V_zret hR rfl (Nat.le_refl _) (Nat.le_refl _) dX11_areInConflict_65 ?_
        exact ⟨bzE (cf_t (by omega)), rfl⟩
  · refine V_aload_n dX11_areInConflict_15 rfl ?_
    refine mg_step rfl dX11_areInConflict_16 ?_
    refine V_iload_n dX11_areInConflict_19 rfl ?_
    refine ml_step ⟨by omega, by omega⟩ dX11_areInConflict_20 ?_
    refine V_aload_n dX11_areInConflict_21 rfl ?_
    refine mg_end rfl dX11_areInConflict_22 ?_
    refine V_iload_n dX11_areInConflict_25 rfl ?_
    refine ml_end ⟨by omega, by omega⟩ dX11_areInConflict_26 ?_
    refine V_icmp_lt (tgt := 60) dX11_areInConflict_27 (by decide) ⟨⟨by omega, by omega⟩, ⟨by omega, by omega⟩⟩ (fun c_4 => ?_) (fun c_4 => ?_)
    · refine V_iconst dX11_areInConflict_60 ?_
      refine V_goto (tgt := 65) dX11_areInConflict_61 (by decide) ?_
      show V K sX11_areInConflict 0 0 (mW a σ) _ [.int (zI (bz true))] 65
      refine V_zret hR rfl (Nat.le_refl _) (Nat.le_refl _) dX11_areInConflict_65 ?_
      exact ⟨bzE (cf_t (by omega)), rfl⟩
    · refine V_aload_n dX11_areInConflict_30 rfl ?_
      refine mg_step rfl dX11_areInConflict_31 ?_
      refine V_iload_n dX11_areInConflict_34 rfl ?_
      refine ml_step ⟨by omega, by omega⟩ dX11_areInConflict_35 ?_
      refine V_aload_n dX11_areInConflict_36 rfl ?_
      refine mg_step rfl dX11_areInConflict_37 ?_
      refine V_iload_n dX11_areInConflict_40 rfl ?_
      refine ml_step ⟨by omega, by omega⟩ dX11_areInConflict_41 ?_
      refine V_icmp_ge (tgt := 64) dX11_areInConflict_42 (by decide) ⟨⟨by omega, by omega⟩, ⟨by omega, by omega⟩⟩ (fun c_5 => ?_) (fun c_5 => ?_)
      · refine V_iconst dX11_areInConflict_64 ?_
        show V K sX11_areInConflict 0 0 (mW a σ) _ [.int (zI (bz false))] 65
        refine V_zret hR rfl (Nat.le_refl _) (Nat.le_refl _) dX11_areInConflict_65 ?_
        exact ⟨bzE (cf_f (by omega)), rfl⟩
      · refine V_aload_n dX11_areInConflict_45 rfl ?_
        refine mg_step rfl dX11_areInConflict_46 ?_
        refine V_iload_n dX11_areInConflict_49 rfl ?_
        refine ml_step ⟨by omega, by omega⟩ dX11_areInConflict_50 ?_
        refine V_aload_n dX11_areInConflict_51 rfl ?_
        refine mg_end rfl dX11_areInConflict_52 ?_
        refine V_iload_n dX11_areInConflict_55 rfl ?_
        refine ml_end ⟨by omega, by omega⟩ dX11_areInConflict_56 ?_
        refine V_icmp_ge (tgt := 64) dX11_areInConflict_57 (by decide) ⟨⟨by omega, by omega⟩, ⟨by omega, by omega⟩⟩ (fun c_6 => ?_) (fun c_6 => ?_)
        · refine V_iconst dX11_areInConflict_64 ?_
          show V K sX11_areInConflict 0 0 (mW a σ) _ [.int (zI (bz false))] 65
          refine V_zret hR rfl (Nat.le_refl _) (Nat.le_refl _) dX11_areInConflict_65 ?_
          exact ⟨bzE (cf_f (by omega)), rfl⟩
        · refine V_iconst dX11_areInConflict_60 ?_
          refine V_goto (tgt := 65) dX11_areInConflict_61 (by decide) ?_
          show V K sX11_areInConflict 0 0 (mW a σ) _ [.int (zI (bz true))] 65
          refine V_zret hR rfl (Nat.le_refl _) (Nat.le_refl _) dX11_areInConflict_65 ?_
          exact ⟨bzE (cf_t (by omega)), rfl⟩
set_option maxRecDepth 100000 in
set_option maxHeartbeats 4000000 in
theorem c_conflicts {E : EV} (hE : Stb E) (a : Nat → Nat) (σ : St) (ia : Int) (s0 : Int) (P : St) (bw cw ka : Int) (hp : MI P ∧ PR P σ ∧ Dealt P bw cw σ ∧ Lived P bw cw σ ∧ (0 ≤ ka ∧ ka < al P) ∧ (0 ≤ s0 ∧ s0 < P 0 2) ∧ ia = cid P ka) : MC E yX11_conflicts sX11_conflicts [.ref (a 0), .int (zI ia), .int (zI s0)] (mW a σ) (fun v w => v = some (.int (zI (ct (fun p => cf P bw cw ka (s0 * pt P + p)) (pt P)))) ∧ w = mW a σ) := by
  refine MC.of hE [some (.ref (a 0)), some (.int (zI ia)), some (.int (zI s0)), none, none] 2 rfl rfl rfl (by simp [Value.category]) (Nat.le_of_ble_eq_true rfl) (fun K hK hR => ?_)
  obtain ⟨hM, hP, hp⟩ := hp
  have e0 := hP 0 (by decide) (by decide)
  have f0 : ∀ i, σ 0 i = P 0 i := fun i => by rw [e0]
  have mR := hM.1
  have mC := hM.2.1
  have mN := hM.2.2.1
  have mp := hM.pts
  have ma := hM.als
  have gR := f0 0
  have gC := f0 1
  have gN := f0 2
  obtain ⟨hD, hL, h1, h2, hia⟩ := hp
  have d1 := cid_b hM h1.1 h1.2
  have loop_8 : ∀ (n0 : Nat) (p : Int), (pt P - p).toNat = n0 → (0 ≤ p ∧ p ≤ pt P) → V K sX11_conflicts 0 0 (mW a σ) [some (.ref (a 0)), some (.int (zI ia)), some (.int (zI s0)), some (.int (zI (ct (fun p => cf P bw cw ka (s0 * pt P + p)) p))), some (.int (zI (64 * s0 + p)))] [] 8 := by
    intro n0
    induction n0 using Nat.strongRecOn with
    | _ n0 ih_8 =>
    intro p hm_8 hq
    refine V_iload dX11_conflicts_8 rfl ?_
    refine V_bipush dX11_conflicts_10 (by decide) ?_
    refine V_iload_n dX11_conflicts_12 rfl ?_
    refine V_imul dX11_conflicts_13 ?_
    refine V_aload_n dX11_conflicts_14 rfl ?_
    refine mg_rows rfl dX11_conflicts_15 ?_
    refine V_aload_n dX11_conflicts_18 rfl ?_
    refine mg_columns rfl dX11_conflicts_19 ?_
    refine V_imul dX11_conflicts_22 ?_
    refine V_iadd dX11_conflicts_23 ?_
    refine V_eqT (y := zI (64 * s0 + pt P)) (by rw [gR, gC]; rfl) ?_
    refine V_icmp_ge (tgt := 57) dX11_conflicts_24 (by decide) ⟨⟨by omega, by omega⟩, ⟨by omega, by omega⟩⟩ (fun c_1 => ?_) (fun c_1 => ?_)
    · refine V_iload_n dX11_conflicts_57 rfl ?_
      refine V_iret hR rfl (Nat.le_refl _) (Nat.le_refl _) dX11_conflicts_58 ?_
      exact ⟨ziE (by rw [show p = pt P by omega]), rfl⟩
    · have kc := comp_eq hM h2.1 h2.2 hq.1 (show p < pt P by omega)
      have kn := ct_b (fun p => cf P bw cw ka (s0 * pt P + p)) p hq.1
      have kk := ct_s (fun p => cf P bw cw ka (s0 * pt P + p)) hq.1
      refine V_iload_n dX11_conflicts_27 rfl ?_
      refine V_iload dX11_conflicts_28 rfl ?_
      refine V_iload_n dX11_conflicts_30 rfl ?_
      refine V_icmp_eq (tgt := 48) dX11_conflicts_31 (by decide) ⟨⟨by omega, by omega⟩, ⟨by omega, by omega⟩⟩ (fun c_2 => ?_) (fun c_2 => ?_)
      · refine V_iconst dX11_conflicts_48 ?_
        refine V_iadd dX11_conflicts_49 ?_
        refine V_istore_n (L' := [some (.ref (a 0)), some (.int (zI ia)), some (.int (zI s0)), some (.int (zI ((ct (fun p => cf P bw cw ka (s0 * pt P + p)) p) + 0))), some (.int (zI (64 * s0 + p)))]) dX11_conflicts_50 (by decide) rfl ?_
        refine V_iinc (L' := [some (.ref (a 0)), some (.int (zI ia)), some (.int (zI s0)), some (.int (zI ((ct (fun p => cf P bw cw ka (s0 * pt P + p)) p) + 0))), some (.int (zI ((64 * s0 + p) + 1)))]) dX11_conflicts_51 (by decide) rfl rfl ?_
        refine V_goto (tgt := 8) dX11_conflicts_54 (by decide) ?_
        refine V_locE (L' := [some (.ref (a 0)), some (.int (zI ia)), some (.int (zI s0)), some (.int (zI (ct (fun p => cf P bw cw ka (s0 * pt P + p)) (p + 1)))), some (.int (zI (64 * s0 + (p + 1))))]) (by rw [kk, show cf P bw cw ka (s0 * pt P + p) = false by (rw [← cid_inj hM h1.1 h1.2 kc.1.1 kc.1.2 (by rw [kc.2.2.2, ← hia]; omega)]; exact cf_self P bw cw ka), bz_f, Int.add_assoc] ) ?_
        refine ih_8 _ (by omega) (p + 1) rfl ?_
        · omega
      · refine V_aload_n dX11_conflicts_34 rfl ?_
        refine V_iload_n dX11_conflicts_35 rfl ?_
        refine V_iload dX11_conflicts_36 rfl ?_
        refine V_callVF (As := [.int (zI ia), .int (zI (64 * s0 + p))]) (b := a 0) (hb := (show (mW a σ)[0]? = some (a 0, .inr (10, mF a σ)) from rfl)) (hc := (show vwCl[10]? = some (RX11, TX11, 30) from rfl)) hK (c_areInConflict hE a σ ia (64 * s0 + p) P bw cw ka (s0 * pt P + p) ⟨hM, hP, hD, hL, h1, kc.1, hia, kc.2.2.2.symm⟩) mokX11_areInConflict w1327 w1329 wps2_13 ⟨Nat.le_of_ble_eq_true rfl, Nat.le_of_ble_eq_true rfl⟩ rfl (Nat.le_of_ble_eq_true rfl) ⟨Nat.le_refl _, Nat.le_refl _⟩ dX11_conflicts_38 (fun v w p_3 => ?_)
        obtain ⟨rfl, rfl⟩ := p_3
        show V K sX11_conflicts 0 0 (mW a σ) _ [.int (zI (bz (cf P bw cw ka (s0 * pt P + p)))), .int (zI (ct (fun p => cf P bw cw ka (s0 * pt P + p)) p))] 41
        refine V_ifb_eq (tgt := 48) dX11_conflicts_41 (by decide) (fun c_4 => ?_) (fun c_4 => ?_)
        · refine V_iconst dX11_conflicts_48 ?_
          refine V_iadd dX11_conflicts_49 ?_
          refine V_istore_n (L' := [some (.ref (a 0)), some (.int (zI ia)), some (.int (zI s0)), some (.int (zI ((ct (fun p => cf P bw cw ka (s0 * pt P + p)) p) + 0))), some (.int (zI (64 * s0 + p)))]) dX11_conflicts_50 (by decide) rfl ?_
          refine V_iinc (L' := [some (.ref (a 0)), some (.int (zI ia)), some (.int (zI s0)), some (.int (zI ((ct (fun p => cf P bw cw ka (s0 * pt P + p)) p) + 0))), some (.int (zI ((64 * s0 + p) + 1)))]) dX11_conflicts_51 (by decide) rfl rfl ?_
          refine V_goto (tgt := 8) dX11_conflicts_54 (by decide) ?_
          refine V_locE (L' := [some (.ref (a 0)), some (.int (zI ia)), some (.int (zI s0)), some (.int (zI (ct (fun p => cf P bw cw ka (s0 * pt P + p)) (p + 1)))), some (.int (zI (64 * s0 + (p + 1))))]) (by rw [kk, c_4, bz_f, Int.add_assoc] ) ?_
          refine ih_8 _ (by omega) (p + 1) rfl ?_
          · omega
        · refine V_iconst dX11_conflicts_44 ?_
          refine V_goto (tgt := 49) dX11_conflicts_45 (by decide) ?_
          refine V_iadd dX11_conflicts_49 ?_
          refine V_istore_n (L' := [some (.ref (a 0)), some (.int (zI ia)), some (.int (zI s0)), some (.int (zI ((ct (fun p => cf P bw cw ka (s0 * pt P + p)) p) + 1))), some (.int (zI (64 * s0 + p)))]) dX11_conflicts_50 (by decide) rfl ?_
          refine V_iinc (L' := [some (.ref (a 0)), some (.int (zI ia)), some (.int (zI s0)), some (.int (zI ((ct (fun p => cf P bw cw ka (s0 * pt P + p)) p) + 1))), some (.int (zI ((64 * s0 + p) + 1)))]) dX11_conflicts_51 (by decide) rfl rfl ?_
          refine V_goto (tgt := 8) dX11_conflicts_54 (by decide) ?_
          refine V_locE (L' := [some (.ref (a 0)), some (.int (zI ia)), some (.int (zI s0)), some (.int (zI (ct (fun p => cf P bw cw ka (s0 * pt P + p)) (p + 1)))), some (.int (zI (64 * s0 + (p + 1))))]) (by rw [kk, c_4, bz_t, Int.add_assoc] ) ?_
          refine ih_8 _ (by omega) (p + 1) rfl ?_
          · omega
  have seg_8 : ∀ (p : Int), (0 ≤ p ∧ p ≤ pt P) → V K sX11_conflicts 0 0 (mW a σ) [some (.ref (a 0)), some (.int (zI ia)), some (.int (zI s0)), some (.int (zI (ct (fun p => cf P bw cw ka (s0 * pt P + p)) p))), some (.int (zI (64 * s0 + p)))] [] 8 := fun p hq => loop_8 _ p rfl hq
  refine V_iconst dX11_conflicts_0 ?_
  refine V_eqT (y := zI (ct (fun p => cf P bw cw ka (s0 * pt P + p)) 0)) (by rw [ct_0 _ (by omega)]) ?_
  refine V_istore_n (L' := [some (.ref (a 0)), some (.int (zI ia)), some (.int (zI s0)), some (.int (zI (ct (fun p => cf P bw cw ka (s0 * pt P + p)) 0))), none]) dX11_conflicts_1 (by decide) rfl ?_
  refine V_bipush dX11_conflicts_2 (by decide) ?_
  refine V_iload_n dX11_conflicts_4 rfl ?_
  refine V_imul dX11_conflicts_5 ?_
  refine V_eqT (y := zI (64 * s0 + 0)) (by rw [Int.add_zero]) ?_
  refine V_istore (L' := [some (.ref (a 0)), some (.int (zI ia)), some (.int (zI s0)), some (.int (zI (ct (fun p => cf P bw cw ka (s0 * pt P + p)) 0))), some (.int (zI (64 * s0 + 0)))]) dX11_conflicts_6 (by decide) rfl ?_
  refine seg_8 0 ?_
  · omega

/-! the law: are the windows right -/
theorem bz_iR (b : Bool) : iR (bz b) := by cases b <;> exact ⟨by decide, by decide⟩
theorem sz_lr {P τ : St} (hM : MI P) (hL : LR P τ) {s : Int} (h0 : 0 ≤ s) (h1 : s < 4) : (P 13 s = 0 → sz P s = pt P) ∧ (P 13 s = 1 → sz P s = τ 1 (20 + s)) ∧ (P 13 s = 2 → sz P s = τ 1 (20 + s) * τ 1 (24 + s)) ∧ (P 13 s = 3 → sz P s = τ 1 (24 + s)) := by
  obtain ⟨-, -, -, -, -, a, b⟩ := hL.at h0 h1
  unfold sz
  refine ⟨fun e => by rw [if_pos e], fun e => ?_, fun e => ?_, fun e => ?_⟩
  · rw [a (by omega)]
    simp only [e, if_neg (show ¬ (1 : Int) = 0 by decide), if_neg (show ¬ (1 : Int) = 2 by decide), if_true]
  · rw [a (by omega), b (by omega)]
    simp only [e, if_neg (show ¬ (2 : Int) = 0 by decide), if_true]
  · rw [b (by omega)]
    simp only [e, if_neg (show ¬ (3 : Int) = 0 by decide), if_neg (show ¬ (3 : Int) = 2 by decide), if_neg (show ¬ (3 : Int) = 1 by decide)]
theorem al_pt {P : St} (hM : MI P) (h : 1 ≤ P 0 2) : pt P ≤ al P := by
  have h1 := hM.pts
  have h2 : 1 * pt P ≤ P 0 2 * pt P := Int.mul_le_mul_of_nonneg_right h (by omega)
  unfold al
  omega
theorem wR_RG {P τ : St} (hM : MI P) (hL : LR P τ) {s : Int} (h0 : 0 ≤ s) (h1 : s < 4) : wR P s ↔ RG P (P 0 11) (P 0 12) s s (P 13 s) (τ 1 (20 + s)) (τ 1 (24 + s)) := by
  have e : ∀ p, pw P (P 13 s) (τ 1 (20 + s)) (τ 1 (24 + s)) p = plc P s p := fun p => (pw_lr hM hL h0 h1 p).1
  rw [RG_s]
  exact ⟨fun h x y d => by rw [e, e]; exact h x y d, fun h x y d => by have := h x y d; rw [e, e] at this; exact this⟩
theorem ljr_b {P : St} {bw cw s o : Int} : -1 ≤ ljr P bw cw s o ∧ ljr P bw cw s o ≤ 99 := by
  unfold ljr
  split
  · rename_i h
    obtain ⟨m, a, b, c⟩ := h
    obtain ⟨h1, h2⟩ := lst_spec (p := jOK P bw cw s o) (lo := 1) (n := m - 1) (by omega) (by rw [show 1 + (m - 1) = m by omega]; exact c)
    have := h1.1
    omega
  · omega
set_option maxRecDepth 100000 in
set_option maxHeartbeats 4000000 in
theorem q_areWindows (en c b : Nat → Nat) (κ τ : St) (Y : vWd) (one : Int) (P : St) (hp : MI P ∧ LR P τ ∧ CWP P κ ∧ LT P τ ∧ LE P τ ∧ (0 ≤ one ∧ one ≤ 60000)) : MC (EX en) yL_areWindows tL_areWindows [.ref (c 0), .ref (b 0), .ref (b 1), .ref (b 3), .ref (b 4), .int (zI one)] (lW b τ (Y ++ fm (cO en c κ))) (fun v w => ∃ (κ2 : St), v = some (.int (zI (bz true))) ∧ w = (lW b τ (Y ++ fm (cO en c κ2))) ∧ (CWP P κ2)) := by
  refine MC.of (EX.stb en) [some (.ref (c 0)), some (.ref (b 0)), some (.ref (b 1)), some (.ref (b 3)), some (.ref (b 4)), some (.int (zI one)), none, none, none, none, none, none, none, none] 8 rfl rfl rfl (by simp [Value.category]) (Nat.le_of_ble_eq_true rfl) (fun K hK hR => ?_)
  obtain ⟨hM, hL, hC, hp⟩ := hp
  have mR := hM.1
  have mC := hM.2.1
  have mN := hM.2.2.1
  have mp := hM.pts
  have ma := hM.als
  have mV := hM.2.2.2.1
  have mW := hM.2.2.2.2.1
  obtain ⟨hT, hE4, hone⟩ := hp
  have hsm := hL.small hM
  have loop_15 : ∀ (n0 : Nat) (s : Int) (rm : Int) (κ1 : St) (k1 : Nat) (n1 : Nat), (P 0 2 - s).toNat = n0 → (0 ≤ s ∧ s ≤ P 0 2) → (rm = smv (sz P) s) → (CWP P κ1) → (k1 ≤ 10 * s.toNat) → (n1 ≤ 100 * s.toNat) → V K tL_areWindows k1 n1 (lW b τ (Y ++ fm (cO en c κ1))) [some (.ref (c 0)), some (.ref (b 0)), some (.ref (b 1)), some (.ref (b 3)), some (.ref (b 4)), some (.int (zI one)), some (.int (zI 1)), some (.int (zI (pt P))), some (.int (zI rm)), some (.int (zI s)), none, none, none, none] [] 15 := by
    intro n0
    induction n0 using Nat.strongRecOn with
    | _ n0 ih_15 =>
    intro s rm κ1 k1 n1 hm_15 hs hrm hC1 hk1 hn1
    have seg_94 : ∀ (x : Int), (s < P 0 2) → (x = sz P s) → V K tL_areWindows k1 n1 (lW b τ (Y ++ fm (cO en c κ1))) [some (.ref (c 0)), some (.ref (b 0)), some (.ref (b 1)), some (.ref (b 3)), some (.ref (b 4)), some (.int (zI one)), some (.int (zI 1)), some (.int (zI (pt P))), some (.int (zI rm)), some (.int (zI s)), some (.int (zI (P 13 s))), none, none, none] [.int (zI x)] 94 := by
      intro x hsn hx
      have ha := hL.at hs.1 (show s < 4 by omega)
      have hszb := sz_b hM hs.1 (show s < 4 by omega)
      have hpl := fun p => pw_lr hM hL hs.1 (show s < 4 by omega) p
      have hcb : 0 ≤ one % pt P ∧ one % pt P < pt P := ⟨Int.emod_nonneg _ (by omega), Int.emod_lt_of_pos _ (by omega)⟩
      have hrc := place_rc hM hcb.1 hcb.2
      have hal1 : pt P ≤ al P := al_pt hM (by omega)
      have hpb := plc_b hM hs.1 (show s < 4 by omega) hcb.1 hcb.2
      refine V_istore (L' := [some (.ref (c 0)), some (.ref (b 0)), some (.ref (b 1)), some (.ref (b 3)), some (.ref (b 4)), some (.int (zI one)), some (.int (zI 1)), some (.int (zI (pt P))), some (.int (zI rm)), some (.int (zI s)), some (.int (zI (P 13 s))), some (.int (zI x)), none, none]) dL_areWindows_94 (by decide) rfl ?_
      refine V_iload dL_areWindows_96 rfl ?_
      refine V_iload dL_areWindows_98 rfl ?_
      refine V_iadd dL_areWindows_100 ?_
      refine V_istore (L' := [some (.ref (c 0)), some (.ref (b 0)), some (.ref (b 1)), some (.ref (b 3)), some (.ref (b 4)), some (.int (zI one)), some (.int (zI 1)), some (.int (zI (pt P))), some (.int (zI (rm + x))), some (.int (zI s)), some (.int (zI (P 13 s))), some (.int (zI x)), none, none]) dL_areWindows_101 (by decide) rfl ?_
      refine V_iload dL_areWindows_103 rfl ?_
      refine V_iload dL_areWindows_105 rfl ?_
      refine V_iremN dL_areWindows_107 ⟨⟨by omega, by omega⟩, ⟨by omega, by omega⟩, by omega, by omega⟩ ?_
      refine V_istore (L' := [some (.ref (c 0)), some (.ref (b 0)), some (.ref (b 1)), some (.ref (b 3)), some (.ref (b 4)), some (.int (zI one)), some (.int (zI 1)), some (.int (zI (pt P))), some (.int (zI (rm + x))), some (.int (zI s)), some (.int (zI (P 13 s))), some (.int (zI x)), some (.int (zI (one % (pt P)))), none]) dL_areWindows_108 (by decide) rfl ?_
      refine V_aload_n dL_areWindows_110 rfl ?_
      refine V_iload dL_areWindows_111 rfl ?_
      refine V_callVB (As := [.int (zI s)]) (b := c 0) (ci := 9) (fs := cwF c κ1) (T := TX10) (N := 9) (lW_cw b τ Y en c κ1) rfl (wr := (lW b τ Y)) (wc := fm (cO en c κ1)) rfl hK (MC.env EX.en (r_windowSize en c κ1 s P ⟨hM, hC1, ⟨hs.1, hsn⟩⟩)) mokX10_windowSize w928 w929 w930 ⟨Nat.le_of_ble_eq_true rfl, Nat.le_of_ble_eq_true rfl⟩ rfl (Nat.le_of_ble_eq_true rfl) ⟨(by show k1 + 0 + 1 ≤ 100; omega), (by show n1 + 0 + 6 ≤ 1000; omega)⟩ dL_areWindows_113 (fun v w p_1 => ?_)
      obtain ⟨κ_2, rfl, rfl, q_3⟩ := p_1
      show V K tL_areWindows (k1 + 1) (n1 + 6) (lW b τ (Y ++ fm (cO en c κ_2))) _ [.int (zI (sz P s))] 116
      refine V_iload dL_areWindows_116 rfl ?_
      refine V_icmp_ne (tgt := 204) dL_areWindows_118 (by decide) ⟨⟨by omega, by omega⟩, ⟨by omega, by omega⟩⟩ (fun c_4 => absurd (hx.symm) c_4) (fun _ => ?_)
      refine V_aload_n dL_areWindows_121 rfl ?_
      refine V_iload dL_areWindows_122 rfl ?_
      refine V_iload dL_areWindows_124 rfl ?_
      refine V_aload_n dL_areWindows_126 rfl ?_
      refine V_iconst dL_areWindows_127 ?_
      refine ll_0 ⟨by omega, by omega⟩ dL_areWindows_128 ?_
      refine V_eqT (y := zI (P 0 1)) (congrArg zI (LR.g1 hL)) ?_
      refine V_idiv dL_areWindows_129 ⟨⟨by omega, by omega⟩, ⟨by omega, by omega⟩, by omega, by omega⟩ ?_
      refine V_iload dL_areWindows_130 rfl ?_
      refine V_aload_n dL_areWindows_132 rfl ?_
      refine V_iconst dL_areWindows_133 ?_
      refine ll_0 ⟨by omega, by omega⟩ dL_areWindows_134 ?_
      refine V_eqT (y := zI (P 0 1)) (congrArg zI (LR.g1 hL)) ?_
      refine V_iremN dL_areWindows_135 ⟨⟨by omega, by omega⟩, ⟨by omega, by omega⟩, by omega, by omega⟩ ?_
      refine V_callVB (As := [.int (zI s), .int (zI ((one % (pt P)) / (P 0 1))), .int (zI ((one % (pt P)) % (P 0 1)))]) (b := c 0) (ci := 9) (fs := cwF c κ_2) (T := TX10) (N := 9) (lW_cw b τ Y en c κ_2) rfl (wr := (lW b τ Y)) (wc := fm (cO en c κ_2)) rfl hK (MC.env EX.en (r_placeOf en c κ_2 s ((one % (pt P)) / (P 0 1)) ((one % (pt P)) % (P 0 1)) P ⟨hM, q_3, ⟨hs.1, hsn⟩, hrc.1, hrc.2.1, hrc.2.2.1, hrc.2.2.2.1⟩)) mokX10_placeOf w932 w933 w934 ⟨Nat.le_of_ble_eq_true rfl, Nat.le_of_ble_eq_true rfl⟩ rfl (Nat.le_of_ble_eq_true rfl) ⟨(by show k1 + 1 + 2 ≤ 100; omega), (by show n1 + 6 + 12 ≤ 1000; omega)⟩ dL_areWindows_136 (fun v w p_5 => ?_)
      obtain ⟨κ_6, rfl, rfl, q_7⟩ := p_5
      show V K tL_areWindows (k1 + 3) (n1 + 18) (lW b τ (Y ++ fm (cO en c κ_6))) _ [.int (zI (plc P s (((one % (pt P)) / (P 0 1)) * P 0 1 + ((one % (pt P)) % (P 0 1)))))] 139
      refine V_eqT (y := zI (plc P s (one % pt P))) (by rw [show one % pt P / P 0 1 * P 0 1 + one % pt P % P 0 1 = one % pt P by rw [Int.mul_comm]; exact hrc.2.2.2.2.symm]) ?_
      refine V_aload_n dL_areWindows_139 rfl ?_
      refine V_iload dL_areWindows_140 rfl ?_
      refine V_aload_n dL_areWindows_142 rfl ?_
      refine V_bipush dL_areWindows_143 (by decide) ?_
      refine V_iload dL_areWindows_145 rfl ?_
      refine V_iadd dL_areWindows_147 ?_
      refine ll_1 ⟨by omega, by omega⟩ dL_areWindows_148 ?_
      refine V_aload_n dL_areWindows_149 rfl ?_
      refine V_bipush dL_areWindows_150 (by decide) ?_
      refine V_iload dL_areWindows_152 rfl ?_
      refine V_iadd dL_areWindows_154 ?_
      refine ll_1 ⟨by omega, by omega⟩ dL_areWindows_155 ?_
      refine V_iload dL_areWindows_156 rfl ?_
      refine V_callSF (As := [.ref (b 0), .int (zI (P 13 s)), .int (zI (τ 1 (20 + s))), .int (zI (τ 1 (24 + s))), .int (zI (one % (pt P)))]) hK (q_place (EX.stb en) b τ (Y ++ fm (cO en c κ_6)) (P 13 s) (τ 1 (20 + s)) (τ 1 (24 + s)) (one % (pt P)) P ⟨hM, hL, ⟨hcb.1, by omega⟩, (hpl 0).2⟩) mokL_place w937 w938 ⟨Nat.le_of_ble_eq_true rfl, Nat.le_of_ble_eq_true rfl⟩ rfl (Nat.le_of_ble_eq_true rfl) ⟨(by show k1 + 3 + 0 ≤ 100; omega), (by show n1 + 18 + 0 ≤ 1000; omega)⟩ dL_areWindows_158 (fun v w p_8 => ?_)
      obtain ⟨rfl, rfl⟩ := p_8
      show V K tL_areWindows (k1 + 3) (n1 + 18) (lW b τ (Y ++ fm (cO en c κ_6))) _ [.int (zI (pw P (P 13 s) (τ 1 (20 + s)) (τ 1 (24 + s)) ((one % (pt P)) % pt P))), .int (zI (plc P s (one % pt P)))] 161
      refine V_eqT (y := zI (plc P s (one % pt P))) (by rw [Int.emod_emod, (hpl _).1]) ?_
      refine V_icmp_ne (tgt := 204) dL_areWindows_161 (by decide) ⟨⟨by omega, by omega⟩, ⟨by omega, by omega⟩⟩ (fun c_9 => absurd (rfl) c_9) (fun _ => ?_)
      refine V_aload_n dL_areWindows_164 rfl ?_
      refine V_iload dL_areWindows_165 rfl ?_
      refine V_callVB (As := [.int (zI s)]) (b := c 0) (ci := 9) (fs := cwF c κ_6) (T := TX10) (N := 9) (lW_cw b τ Y en c κ_6) rfl (wr := (lW b τ Y)) (wc := fm (cO en c κ_6)) rfl hK (MC.env EX.en (r_isRight en c κ_6 s P ⟨hM, q_7, ⟨hs.1, hsn⟩⟩)) mokX10_isRight w940 w941 w942 ⟨Nat.le_of_ble_eq_true rfl, Nat.le_of_ble_eq_true rfl⟩ rfl (Nat.le_of_ble_eq_true rfl) ⟨(by show k1 + 3 + 1 ≤ 100; omega), (by show n1 + 18 + 6 ≤ 1000; omega)⟩ dL_areWindows_167 (fun v w p_10 => ?_)
      obtain ⟨κ_11, rfl, rfl, q_12⟩ := p_10
      show V K tL_areWindows (k1 + 4) (n1 + 24) (lW b τ (Y ++ fm (cO en c κ_11))) _ [.int (zI (bz (dcd (wR P s))))] 170
      refine V_aload_n dL_areWindows_170 rfl ?_
      refine V_aload_n dL_areWindows_171 rfl ?_
      refine V_aload dL_areWindows_172 rfl ?_
      refine V_iload dL_areWindows_174 rfl ?_
      refine V_iload dL_areWindows_176 rfl ?_
      refine V_iload dL_areWindows_178 rfl ?_
      refine V_aload_n dL_areWindows_180 rfl ?_
      refine V_bipush dL_areWindows_181 (by decide) ?_
      refine V_iload dL_areWindows_183 rfl ?_
      refine V_iadd dL_areWindows_185 ?_
      refine ll_1 ⟨by omega, by omega⟩ dL_areWindows_186 ?_
      refine V_aload_n dL_areWindows_187 rfl ?_
      refine V_bipush dL_areWindows_188 (by decide) ?_
      refine V_iload dL_areWindows_190 rfl ?_
      refine V_iadd dL_areWindows_192 ?_
      refine ll_1 ⟨by omega, by omega⟩ dL_areWindows_193 ?_
      refine V_callSF (As := [.ref (b 0), .ref (b 3), .ref (b 4), .int (zI s), .int (zI s), .int (zI (P 13 s)), .int (zI (τ 1 (20 + s))), .int (zI (τ 1 (24 + s)))]) hK (q_isRight (EX.stb en) b τ (Y ++ fm (cO en c κ_11)) s s (P 13 s) (τ 1 (20 + s)) (τ 1 (24 + s)) P ⟨hM, hL, hT, hE4, ⟨hs.1, hsn⟩, ⟨hs.1, hsn⟩, (hpl 0).2⟩) mokL_isRight w945 w946 ⟨Nat.le_of_ble_eq_true rfl, Nat.le_of_ble_eq_true rfl⟩ rfl (Nat.le_of_ble_eq_true rfl) ⟨(by show k1 + 4 + 0 ≤ 100; omega), (by show n1 + 24 + 0 ≤ 1000; omega)⟩ dL_areWindows_194 (fun v w p_13 => ?_)
      obtain ⟨rfl, rfl⟩ := p_13
      show V K tL_areWindows (k1 + 4) (n1 + 24) (lW b τ (Y ++ fm (cO en c κ_11))) _ [.int (zI (bz (dcd (RG P (P 0 11) (P 0 12) s s (P 13 s) (τ 1 (20 + s)) (τ 1 (24 + s)))))), .int (zI (bz (dcd (wR P s))))] 197
      refine V_icmp_ne (tgt := 204) dL_areWindows_197 (by decide) ⟨bz_iR _, bz_iR _⟩ (fun c_14 => absurd (congrArg bz (dcd_congr (wR_RG hM hL hs.1 (by omega)))) c_14) (fun _ => ?_)
      refine V_iconst dL_areWindows_200 ?_
      refine V_goto (tgt := 205) dL_areWindows_201 (by decide) ?_
      refine V_istore (L' := [some (.ref (c 0)), some (.ref (b 0)), some (.ref (b 1)), some (.ref (b 3)), some (.ref (b 4)), some (.int (zI one)), some (.int (zI 1)), some (.int (zI (pt P))), some (.int (zI (rm + x))), some (.int (zI s)), some (.int (zI (P 13 s))), some (.int (zI x)), some (.int (zI (one % (pt P)))), none]) dL_areWindows_205 (by decide) rfl ?_
      refine V_iinc (L' := [some (.ref (c 0)), some (.ref (b 0)), some (.ref (b 1)), some (.ref (b 3)), some (.ref (b 4)), some (.int (zI one)), some (.int (zI 1)), some (.int (zI (pt P))), some (.int (zI (rm + x))), some (.int (zI (s + 1))), some (.int (zI (P 13 s))), some (.int (zI x)), some (.int (zI (one % (pt P)))), none]) dL_areWindows_207 (by decide) rfl rfl ?_
      refine V_goto (tgt := 15) dL_areWindows_210 (by decide) ?_
      refine V_mask (L' := [some (.ref (c 0)), some (.ref (b 0)), some (.ref (b 1)), some (.ref (b 3)), some (.ref (b 4)), some (.int (zI one)), some (.int (zI 1)), some (.int (zI (pt P))), some (.int (zI (rm + x))), some (.int (zI (s + 1))), none, none, none, none]) [true, true, true, true, true, true, true, true, true, true, false, false, false, false] rfl ?_
      refine ih_15 _ (by omega) (s + 1) (rm + x) κ_11 (k1 + 4) (n1 + 24) rfl ?_ ?_ ?_ ?_ ?_
      · omega
      · rw [smv_s _ hs.1, hrm, hx]
      · exact q_12
      · omega
      · omega
    refine V_iload dL_areWindows_15 rfl ?_
    refine V_aload_n dL_areWindows_17 rfl ?_
    refine V_iconst dL_areWindows_18 ?_
    refine ll_0 ⟨by omega, by omega⟩ dL_areWindows_19 ?_
    refine V_eqT (y := zI (P 0 2)) (congrArg zI (LR.g2 hL)) ?_
    refine V_icmp_ge (tgt := 213) dL_areWindows_20 (by decide) ⟨⟨by omega, by omega⟩, ⟨by omega, by omega⟩⟩ (fun c_15 => ?_) (fun c_15 => ?_)
    · have hsb := smv_b (f := sz P) (B := 9801) s hs.1 (fun j a b => by have := sz_b hM a (show j < 4 by omega); omega)
      have hsb2 := smv_b (f := sz P) (B := 9801) (P 0 2) mN.1 (fun j a b => by have := sz_b hM a (show j < 4 by omega); omega)
      refine V_iload dL_areWindows_213 rfl ?_
      refine V_if_eq (tgt := 231) dL_areWindows_215 (by decide) ⟨by decide, by decide⟩ (fun h => absurd h (by decide)) (fun _ => ?_)
      refine V_aload_n dL_areWindows_218 rfl ?_
      refine V_callVB (As := []) (b := c 0) (ci := 9) (fs := cwF c κ1) (T := TX10) (N := 9) (lW_cw b τ Y en c κ1) rfl (wr := (lW b τ Y)) (wc := fm (cO en c κ1)) rfl hK (MC.env EX.en (r_room en c κ1 P ⟨hM, hC1⟩)) mokX10_room w469 w462 w463 ⟨Nat.le_of_ble_eq_true rfl, Nat.le_of_ble_eq_true rfl⟩ rfl (Nat.le_of_ble_eq_true rfl) ⟨(by show k1 + 0 + 0 ≤ 100; omega), (by show n1 + 0 + 0 ≤ 1000; omega)⟩ dL_areWindows_219 (fun v w p_17 => ?_)
      obtain ⟨κ_18, rfl, rfl, q_19⟩ := p_17
      show V K tL_areWindows k1 n1 (lW b τ (Y ++ fm (cO en c κ_18))) _ [.int (zI (smv (sz P) (P 0 2)))] 222
      refine V_iload dL_areWindows_222 rfl ?_
      refine V_icmp_ne (tgt := 231) dL_areWindows_224 (by decide) ⟨⟨by omega, by omega⟩, ⟨by omega, by omega⟩⟩ (fun c_20 => absurd (by rw [hrm, show s = P 0 2 by omega]) c_20) (fun _ => ?_)
      refine V_iconst dL_areWindows_227 ?_
      refine V_goto (tgt := 232) dL_areWindows_228 (by decide) ?_
      refine V_istore (L' := [some (.ref (c 0)), some (.ref (b 0)), some (.ref (b 1)), some (.ref (b 3)), some (.ref (b 4)), some (.int (zI one)), some (.int (zI 1)), some (.int (zI (pt P))), some (.int (zI rm)), some (.int (zI s)), none, none, none, none]) dL_areWindows_232 (by decide) rfl ?_
      refine V_aload_n dL_areWindows_234 rfl ?_
      refine V_iconst dL_areWindows_235 ?_
      refine ll_0 ⟨by omega, by omega⟩ dL_areWindows_236 ?_
      refine V_eqT (y := zI (P 0 2)) (congrArg zI (LR.g2 hL)) ?_
      refine V_if_le (tgt := 403) dL_areWindows_237 (by decide) ⟨by omega, by omega⟩ (fun c_21 => ?_) (fun c_21 => ?_)
      · refine V_iload dL_areWindows_403 rfl ?_
        show V K tL_areWindows k1 n1 _ _ [.int (zI (bz true))] 405
        refine V_zret hR rfl (by show k1 + 0 ≤ 100; omega) (by show n1 + 0 ≤ 1000; omega) dL_areWindows_405 ?_
        exact ⟨_, rfl, rfl, q_19⟩
      · refine V_iload dL_areWindows_240 rfl ?_
        refine V_if_eq (tgt := 403) dL_areWindows_242 (by decide) ⟨by decide, by decide⟩ (fun h => absurd h (by decide)) (fun _ => ?_)
        refine V_iload dL_areWindows_245 rfl ?_
        refine V_aload_n dL_areWindows_247 rfl ?_
        refine V_iconst dL_areWindows_248 ?_
        refine ll_0 ⟨by omega, by omega⟩ dL_areWindows_249 ?_
        refine V_eqT (y := zI (P 0 2)) (congrArg zI (LR.g2 hL)) ?_
        have hos : 0 ≤ one % P 0 2 ∧ one % P 0 2 < P 0 2 := ⟨Int.emod_nonneg _ (by omega), Int.emod_lt_of_pos _ (by omega)⟩
        have hoo : 0 ≤ one / 4 % P 0 2 ∧ one / 4 % P 0 2 < P 0 2 := ⟨Int.emod_nonneg _ (by omega), Int.emod_lt_of_pos _ (by omega)⟩
        have hlr := lr_b hM (P 0 11) (P 0 12) (one % P 0 2)
        have h2b := two_b hM (P 0 11) (P 0 12) (one % P 0 2)
        have hlsp := ls_spec hM (P 0 11) (P 0 12) (one % P 0 2)
        have hls1 := hlsp.1.1
        have hls2 := hlsp.2
        have hjb := ljr_b (P := P) (bw := P 0 11) (cw := P 0 12) (s := one % P 0 2) (o := one / 4 % P 0 2)
        refine V_iremN dL_areWindows_250 ⟨⟨by omega, by omega⟩, ⟨by omega, by omega⟩, by omega, by omega⟩ ?_
        refine V_istore (L' := [some (.ref (c 0)), some (.ref (b 0)), some (.ref (b 1)), some (.ref (b 3)), some (.ref (b 4)), some (.int (zI one)), some (.int (zI 1)), some (.int (zI (pt P))), some (.int (zI rm)), some (.int (zI (one % (P 0 2)))), none, none, none, none]) dL_areWindows_251 (by decide) rfl ?_
        refine V_aload_n dL_areWindows_253 rfl ?_
        refine V_aload_n dL_areWindows_254 rfl ?_
        refine V_aload dL_areWindows_255 rfl ?_
        refine V_iload dL_areWindows_257 rfl ?_
        refine V_callSF (As := [.ref (b 0), .ref (b 3), .ref (b 4), .int (zI (one % (P 0 2)))]) hK (q_rest (EX.stb en) b τ (Y ++ fm (cO en c κ_18)) (one % (P 0 2)) P ⟨hM, hL, hT, hE4, hos⟩) mokL_rest w948 w949 ⟨Nat.le_of_ble_eq_true rfl, Nat.le_of_ble_eq_true rfl⟩ rfl (Nat.le_of_ble_eq_true rfl) ⟨(by show k1 + 0 + 0 ≤ 100; omega), (by show n1 + 0 + 0 ≤ 1000; omega)⟩ dL_areWindows_259 (fun v w p_23 => ?_)
        obtain ⟨rfl, rfl⟩ := p_23
        show V K tL_areWindows k1 n1 (lW b τ (Y ++ fm (cO en c κ_18))) _ [.int (zI (lr P (P 0 11) (P 0 12) (one % (P 0 2))))] 262
        refine V_istore (L' := [some (.ref (c 0)), some (.ref (b 0)), some (.ref (b 1)), some (.ref (b 3)), some (.ref (b 4)), some (.int (zI one)), some (.int (zI 1)), some (.int (zI (pt P))), some (.int (zI rm)), some (.int (zI (one % (P 0 2)))), some (.int (zI (lr P (P 0 11) (P 0 12) (one % (P 0 2))))), none, none, none]) dL_areWindows_262 (by decide) rfl ?_
        refine V_aload_n dL_areWindows_264 rfl ?_
        refine V_aload_n dL_areWindows_265 rfl ?_
        refine V_aload dL_areWindows_266 rfl ?_
        refine V_iload dL_areWindows_268 rfl ?_
        refine V_callSF (As := [.ref (b 0), .ref (b 3), .ref (b 4), .int (zI (one % (P 0 2)))]) hK (q_two (EX.stb en) b τ (Y ++ fm (cO en c κ_18)) (one % (P 0 2)) P ⟨hM, hL, hT, hE4, hos⟩) mokL_two w951 w952 ⟨Nat.le_of_ble_eq_true rfl, Nat.le_of_ble_eq_true rfl⟩ rfl (Nat.le_of_ble_eq_true rfl) ⟨(by show k1 + 0 + 0 ≤ 100; omega), (by show n1 + 0 + 0 ≤ 1000; omega)⟩ dL_areWindows_270 (fun v w p_24 => ?_)
        obtain ⟨rfl, rfl⟩ := p_24
        show V K tL_areWindows k1 n1 (lW b τ (Y ++ fm (cO en c κ_18))) _ [.int (zI (100 * tw1 P (P 0 11) (P 0 12) (one % (P 0 2)) + tw2 P (P 0 11) (P 0 12) (one % (P 0 2))))] 273
        refine V_istore (L' := [some (.ref (c 0)), some (.ref (b 0)), some (.ref (b 1)), some (.ref (b 3)), some (.ref (b 4)), some (.int (zI one)), some (.int (zI 1)), some (.int (zI (pt P))), some (.int (zI rm)), some (.int (zI (one % (P 0 2)))), some (.int (zI (lr P (P 0 11) (P 0 12) (one % (P 0 2))))), some (.int (zI (100 * tw1 P (P 0 11) (P 0 12) (one % (P 0 2)) + tw2 P (P 0 11) (P 0 12) (one % (P 0 2))))), none, none]) dL_areWindows_273 (by decide) rfl ?_
        refine V_aload_n dL_areWindows_275 rfl ?_
        refine V_aload_n dL_areWindows_276 rfl ?_
        refine V_aload dL_areWindows_277 rfl ?_
        refine V_iload dL_areWindows_279 rfl ?_
        refine V_callSF (As := [.ref (b 0), .ref (b 3), .ref (b 4), .int (zI (one % (P 0 2)))]) hK (q_slant (EX.stb en) b τ (Y ++ fm (cO en c κ_18)) (one % (P 0 2)) P ⟨hM, hL, hT, hE4, hos⟩) mokL_slant w954 w955 ⟨Nat.le_of_ble_eq_true rfl, Nat.le_of_ble_eq_true rfl⟩ rfl (Nat.le_of_ble_eq_true rfl) ⟨(by show k1 + 0 + 0 ≤ 100; omega), (by show n1 + 0 + 0 ≤ 1000; omega)⟩ dL_areWindows_281 (fun v w p_25 => ?_)
        obtain ⟨rfl, rfl⟩ := p_25
        show V K tL_areWindows k1 n1 (lW b τ (Y ++ fm (cO en c κ_18))) _ [.int (zI (ls P (P 0 11) (P 0 12) (one % (P 0 2))))] 284
        refine V_istore (L' := [some (.ref (c 0)), some (.ref (b 0)), some (.ref (b 1)), some (.ref (b 3)), some (.ref (b 4)), some (.int (zI one)), some (.int (zI 1)), some (.int (zI (pt P))), some (.int (zI rm)), some (.int (zI (one % (P 0 2)))), some (.int (zI (lr P (P 0 11) (P 0 12) (one % (P 0 2))))), some (.int (zI (100 * tw1 P (P 0 11) (P 0 12) (one % (P 0 2)) + tw2 P (P 0 11) (P 0 12) (one % (P 0 2))))), some (.int (zI (ls P (P 0 11) (P 0 12) (one % (P 0 2))))), none]) dL_areWindows_284 (by decide) rfl ?_
        refine V_iload dL_areWindows_286 rfl ?_
        refine V_iconst dL_areWindows_288 ?_
        refine V_idiv dL_areWindows_289 ⟨⟨by omega, by omega⟩, ⟨by omega, by omega⟩, by omega, by omega⟩ ?_
        refine V_aload_n dL_areWindows_290 rfl ?_
        refine V_iconst dL_areWindows_291 ?_
        refine ll_0 ⟨by omega, by omega⟩ dL_areWindows_292 ?_
        refine V_eqT (y := zI (P 0 2)) (congrArg zI (LR.g2 hL)) ?_
        refine V_iremN dL_areWindows_293 ⟨⟨by omega, by omega⟩, ⟨by omega, by omega⟩, by omega, by omega⟩ ?_
        refine V_istore (L' := [some (.ref (c 0)), some (.ref (b 0)), some (.ref (b 1)), some (.ref (b 3)), some (.ref (b 4)), some (.int (zI one)), some (.int (zI 1)), some (.int (zI (pt P))), some (.int (zI rm)), some (.int (zI (one % (P 0 2)))), some (.int (zI (lr P (P 0 11) (P 0 12) (one % (P 0 2))))), some (.int (zI (100 * tw1 P (P 0 11) (P 0 12) (one % (P 0 2)) + tw2 P (P 0 11) (P 0 12) (one % (P 0 2))))), some (.int (zI (ls P (P 0 11) (P 0 12) (one % (P 0 2))))), some (.int (zI ((one / 4) % (P 0 2))))]) dL_areWindows_294 (by decide) rfl ?_
        refine V_aload_n dL_areWindows_296 rfl ?_
        refine V_iload dL_areWindows_297 rfl ?_
        refine V_callVB (As := [.int (zI (one % (P 0 2)))]) (b := c 0) (ci := 9) (fs := cwF c κ_18) (T := TX10) (N := 9) (lW_cw b τ Y en c κ_18) rfl (wr := (lW b τ Y)) (wc := fm (cO en c κ_18)) rfl hK (MC.env EX.en (r_leastRest en c κ_18 (one % (P 0 2)) P ⟨hM, q_19, hos⟩)) mokX10_leastRest w957 w958 w959 ⟨Nat.le_of_ble_eq_true rfl, Nat.le_of_ble_eq_true rfl⟩ rfl (Nat.le_of_ble_eq_true rfl) ⟨(by show k1 + 0 + 1 ≤ 100; omega), (by show n1 + 0 + 6 ≤ 1000; omega)⟩ dL_areWindows_299 (fun v w p_26 => ?_)
        obtain ⟨κ_27, rfl, rfl, q_28⟩ := p_26
        show V K tL_areWindows (k1 + 1) (n1 + 6) (lW b τ (Y ++ fm (cO en c κ_27))) _ [.int (zI (lr P (P 0 11) (P 0 12) (one % (P 0 2))))] 302
        refine V_iload dL_areWindows_302 rfl ?_
        refine V_icmp_ne (tgt := 400) dL_areWindows_304 (by decide) ⟨⟨by omega, by omega⟩, ⟨by omega, by omega⟩⟩ (fun c_29 => absurd (rfl) c_29) (fun _ => ?_)
        refine V_aload_n dL_areWindows_307 rfl ?_
        refine V_iload dL_areWindows_308 rfl ?_
        refine V_callVB (As := [.int (zI (one % (P 0 2)))]) (b := c 0) (ci := 9) (fs := cwF c κ_27) (T := TX10) (N := 9) (lW_cw b τ Y en c κ_27) rfl (wr := (lW b τ Y)) (wc := fm (cO en c κ_27)) rfl hK (MC.env EX.en (r_leastRestByDifferences en c κ_27 (one % (P 0 2)) P ⟨hM, q_28, hos⟩)) mokX10_leastRestByDifferences w961 w962 w963 ⟨Nat.le_of_ble_eq_true rfl, Nat.le_of_ble_eq_true rfl⟩ rfl (Nat.le_of_ble_eq_true rfl) ⟨(by show k1 + 1 + 1 ≤ 100; omega), (by show n1 + 6 + 6 ≤ 1000; omega)⟩ dL_areWindows_310 (fun v w p_30 => ?_)
        obtain ⟨κ_31, rfl, rfl, q_32⟩ := p_30
        show V K tL_areWindows (k1 + 2) (n1 + 12) (lW b τ (Y ++ fm (cO en c κ_31))) _ [.int (zI (lr P (P 0 11) (P 0 12) (one % (P 0 2))))] 313
        refine V_iload dL_areWindows_313 rfl ?_
        refine V_icmp_ne (tgt := 400) dL_areWindows_315 (by decide) ⟨⟨by omega, by omega⟩, ⟨by omega, by omega⟩⟩ (fun c_33 => absurd (rfl) c_33) (fun _ => ?_)
        refine V_aload_n dL_areWindows_318 rfl ?_
        refine V_iload dL_areWindows_319 rfl ?_
        refine V_callVB (As := [.int (zI (one % (P 0 2)))]) (b := c 0) (ci := 9) (fs := cwF c κ_31) (T := TX10) (N := 9) (lW_cw b τ Y en c κ_31) rfl (wr := (lW b τ Y)) (wc := fm (cO en c κ_31)) rfl hK (MC.env EX.en (r_leastRowRest en c κ_31 (one % (P 0 2)) P ⟨hM, q_32, hos⟩)) mokX10_leastRowRest w974 w975 w976 ⟨Nat.le_of_ble_eq_true rfl, Nat.le_of_ble_eq_true rfl⟩ rfl (Nat.le_of_ble_eq_true rfl) ⟨(by show k1 + 2 + 1 ≤ 100; omega), (by show n1 + 12 + 6 ≤ 1000; omega)⟩ dL_areWindows_321 (fun v w p_34 => ?_)
        obtain ⟨κ_35, rfl, rfl, q_36⟩ := p_34
        show V K tL_areWindows (k1 + 3) (n1 + 18) (lW b τ (Y ++ fm (cO en c κ_35))) _ [.int (zI (tw1 P (P 0 11) (P 0 12) (one % (P 0 2))))] 324
        refine V_iload dL_areWindows_324 rfl ?_
        refine V_bipush dL_areWindows_326 (by decide) ?_
        refine V_idiv dL_areWindows_328 ⟨⟨by omega, by omega⟩, ⟨by omega, by omega⟩, by omega, by omega⟩ ?_
        refine V_eqT (y := zI (tw1 P (P 0 11) (P 0 12) (one % P 0 2))) (congrArg zI (by omega)) ?_
        refine V_icmp_ne (tgt := 400) dL_areWindows_329 (by decide) ⟨⟨by omega, by omega⟩, ⟨by omega, by omega⟩⟩ (fun c_37 => absurd (rfl) c_37) (fun _ => ?_)
        refine V_aload_n dL_areWindows_332 rfl ?_
        refine V_iload dL_areWindows_333 rfl ?_
        refine V_callVB (As := [.int (zI (one % (P 0 2)))]) (b := c 0) (ci := 9) (fs := cwF c κ_35) (T := TX10) (N := 9) (lW_cw b τ Y en c κ_35) rfl (wr := (lW b τ Y)) (wc := fm (cO en c κ_35)) rfl hK (MC.env EX.en (r_leastColumnRest en c κ_35 (one % (P 0 2)) P ⟨hM, q_36, hos⟩)) mokX10_leastColumnRest w978 w979 w980 ⟨Nat.le_of_ble_eq_true rfl, Nat.le_of_ble_eq_true rfl⟩ rfl (Nat.le_of_ble_eq_true rfl) ⟨(by show k1 + 3 + 1 ≤ 100; omega), (by show n1 + 18 + 6 ≤ 1000; omega)⟩ dL_areWindows_335 (fun v w p_38 => ?_)
        obtain ⟨κ_39, rfl, rfl, q_40⟩ := p_38
        show V K tL_areWindows (k1 + 4) (n1 + 24) (lW b τ (Y ++ fm (cO en c κ_39))) _ [.int (zI (tw2 P (P 0 11) (P 0 12) (one % (P 0 2))))] 338
        refine V_iload dL_areWindows_338 rfl ?_
        refine V_bipush dL_areWindows_340 (by decide) ?_
        refine V_iremN dL_areWindows_342 ⟨⟨by omega, by omega⟩, ⟨by omega, by omega⟩, by omega, by omega⟩ ?_
        refine V_eqT (y := zI (tw2 P (P 0 11) (P 0 12) (one % P 0 2))) (congrArg zI (by omega)) ?_
        refine V_icmp_ne (tgt := 400) dL_areWindows_343 (by decide) ⟨⟨by omega, by omega⟩, ⟨by omega, by omega⟩⟩ (fun c_41 => absurd (rfl) c_41) (fun _ => ?_)
        refine V_aload_n dL_areWindows_346 rfl ?_
        refine V_iload dL_areWindows_347 rfl ?_
        refine V_callVB (As := [.int (zI (one % (P 0 2)))]) (b := c 0) (ci := 9) (fs := cwF c κ_39) (T := TX10) (N := 9) (lW_cw b τ Y en c κ_39) rfl (wr := (lW b τ Y)) (wc := fm (cO en c κ_39)) rfl hK (MC.env EX.en (r_leastSlantModulus en c κ_39 (one % (P 0 2)) P ⟨hM, q_40, hos⟩)) mokX10_leastSlantModulus w982 w983 w984 ⟨Nat.le_of_ble_eq_true rfl, Nat.le_of_ble_eq_true rfl⟩ rfl (Nat.le_of_ble_eq_true rfl) ⟨(by show k1 + 4 + 1 ≤ 100; omega), (by show n1 + 24 + 6 ≤ 1000; omega)⟩ dL_areWindows_349 (fun v w p_42 => ?_)
        obtain ⟨κ_43, rfl, rfl, q_44⟩ := p_42
        show V K tL_areWindows (k1 + 5) (n1 + 30) (lW b τ (Y ++ fm (cO en c κ_43))) _ [.int (zI (ls P (P 0 11) (P 0 12) (one % (P 0 2)) / 10))] 352
        refine V_iload dL_areWindows_352 rfl ?_
        refine V_bipush dL_areWindows_354 (by decide) ?_
        refine V_idiv dL_areWindows_356 ⟨⟨by omega, by omega⟩, ⟨by omega, by omega⟩, by omega, by omega⟩ ?_
        refine V_icmp_ne (tgt := 400) dL_areWindows_357 (by decide) ⟨⟨by omega, by omega⟩, ⟨by omega, by omega⟩⟩ (fun c_45 => absurd (rfl) c_45) (fun _ => ?_)
        refine V_aload_n dL_areWindows_360 rfl ?_
        refine V_iload dL_areWindows_361 rfl ?_
        refine V_callVB (As := [.int (zI (one % (P 0 2)))]) (b := c 0) (ci := 9) (fs := cwF c κ_43) (T := TX10) (N := 9) (lW_cw b τ Y en c κ_43) rfl (wr := (lW b τ Y)) (wc := fm (cO en c κ_43)) rfl hK (MC.env EX.en (r_leastSlant en c κ_43 (one % (P 0 2)) P ⟨hM, q_44, hos⟩)) mokX10_leastSlant w986 w987 w988 ⟨Nat.le_of_ble_eq_true rfl, Nat.le_of_ble_eq_true rfl⟩ rfl (Nat.le_of_ble_eq_true rfl) ⟨(by show k1 + 5 + 1 ≤ 100; omega), (by show n1 + 30 + 6 ≤ 1000; omega)⟩ dL_areWindows_363 (fun v w p_46 => ?_)
        obtain ⟨κ_47, rfl, rfl, q_48⟩ := p_46
        show V K tL_areWindows (k1 + 6) (n1 + 36) (lW b τ (Y ++ fm (cO en c κ_47))) _ [.int (zI (ls P (P 0 11) (P 0 12) (one % (P 0 2)) % 10))] 366
        refine V_iload dL_areWindows_366 rfl ?_
        refine V_bipush dL_areWindows_368 (by decide) ?_
        refine V_iremN dL_areWindows_370 ⟨⟨by omega, by omega⟩, ⟨by omega, by omega⟩, by omega, by omega⟩ ?_
        refine V_icmp_ne (tgt := 400) dL_areWindows_371 (by decide) ⟨⟨by omega, by omega⟩, ⟨by omega, by omega⟩⟩ (fun c_49 => absurd (rfl) c_49) (fun _ => ?_)
        refine V_aload_n dL_areWindows_374 rfl ?_
        refine V_iload dL_areWindows_375 rfl ?_
        refine V_iload dL_areWindows_377 rfl ?_
        refine V_callVB (As := [.int (zI (one % (P 0 2))), .int (zI ((one / 4) % (P 0 2)))]) (b := c 0) (ci := 9) (fs := cwF c κ_47) (T := TX10) (N := 9) (lW_cw b τ Y en c κ_47) rfl (wr := (lW b τ Y)) (wc := fm (cO en c κ_47)) rfl hK (MC.env EX.en (r_leastJointRest en c κ_47 (one % (P 0 2)) ((one / 4) % (P 0 2)) P ⟨hM, q_48, hos, hoo⟩)) mokX10_leastJointRest w860 w861 w862 ⟨Nat.le_of_ble_eq_true rfl, Nat.le_of_ble_eq_true rfl⟩ rfl (Nat.le_of_ble_eq_true rfl) ⟨(by show k1 + 6 + 2 ≤ 100; omega), (by show n1 + 36 + 12 ≤ 1000; omega)⟩ dL_areWindows_379 (fun v w p_50 => ?_)
        obtain ⟨κ_51, rfl, rfl, q_52⟩ := p_50
        show V K tL_areWindows (k1 + 8) (n1 + 48) (lW b τ (Y ++ fm (cO en c κ_51))) _ [.int (zI (ljr P (P 0 11) (P 0 12) (one % (P 0 2)) ((one / 4) % (P 0 2))))] 382
        refine V_aload_n dL_areWindows_382 rfl ?_
        refine V_aload_n dL_areWindows_383 rfl ?_
        refine V_aload dL_areWindows_384 rfl ?_
        refine V_iload dL_areWindows_386 rfl ?_
        refine V_iload dL_areWindows_388 rfl ?_
        refine V_callSF (As := [.ref (b 0), .ref (b 3), .ref (b 4), .int (zI (one % (P 0 2))), .int (zI ((one / 4) % (P 0 2)))]) hK (q_joint (EX.stb en) b τ (Y ++ fm (cO en c κ_51)) (one % (P 0 2)) ((one / 4) % (P 0 2)) P ⟨hM, hL, hT, hE4, hos, hoo⟩) mokL_joint w990 w991 ⟨Nat.le_of_ble_eq_true rfl, Nat.le_of_ble_eq_true rfl⟩ rfl (Nat.le_of_ble_eq_true rfl) ⟨(by show k1 + 8 + 0 ≤ 100; omega), (by show n1 + 48 + 0 ≤ 1000; omega)⟩ dL_areWindows_390 (fun v w p_53 => ?_)
        obtain ⟨rfl, rfl⟩ := p_53
        show V K tL_areWindows (k1 + 8) (n1 + 48) (lW b τ (Y ++ fm (cO en c κ_51))) _ [.int (zI (ljr P (P 0 11) (P 0 12) (one % (P 0 2)) ((one / 4) % (P 0 2)))), .int (zI (ljr P (P 0 11) (P 0 12) (one % (P 0 2)) ((one / 4) % (P 0 2))))] 393
        refine V_icmp_ne (tgt := 400) dL_areWindows_393 (by decide) ⟨⟨by omega, by omega⟩, ⟨by omega, by omega⟩⟩ (fun c_54 => absurd (rfl) c_54) (fun _ => ?_)
        refine V_iconst dL_areWindows_396 ?_
        refine V_goto (tgt := 401) dL_areWindows_397 (by decide) ?_
        refine V_istore (L' := [some (.ref (c 0)), some (.ref (b 0)), some (.ref (b 1)), some (.ref (b 3)), some (.ref (b 4)), some (.int (zI one)), some (.int (zI 1)), some (.int (zI (pt P))), some (.int (zI rm)), some (.int (zI (one % (P 0 2)))), some (.int (zI (lr P (P 0 11) (P 0 12) (one % (P 0 2))))), some (.int (zI (100 * tw1 P (P 0 11) (P 0 12) (one % (P 0 2)) + tw2 P (P 0 11) (P 0 12) (one % (P 0 2))))), some (.int (zI (ls P (P 0 11) (P 0 12) (one % (P 0 2))))), some (.int (zI ((one / 4) % (P 0 2))))]) dL_areWindows_401 (by decide) rfl ?_
        refine V_iload dL_areWindows_403 rfl ?_
        show V K tL_areWindows (k1 + 8) (n1 + 48) _ _ [.int (zI (bz true))] 405
        refine V_zret hR rfl (by show k1 + 8 ≤ 100; omega) (by show n1 + 48 ≤ 1000; omega) dL_areWindows_405 ?_
        exact ⟨_, rfl, rfl, q_52⟩
    · refine V_iload dL_areWindows_23 rfl ?_
      refine V_if_eq (tgt := 213) dL_areWindows_25 (by decide) ⟨by decide, by decide⟩ (fun h => absurd h (by decide)) (fun _ => ?_)
      have ha := hL.at hs.1 (show s < 4 by omega)
      have hsz := sz_lr (P := P) (τ := τ) hM hL hs.1 (show s < 4 by omega)
      refine V_aload_n dL_areWindows_28 rfl ?_
      refine V_bipush dL_areWindows_29 (by decide) ?_
      refine V_iload dL_areWindows_31 rfl ?_
      refine V_iadd dL_areWindows_33 ?_
      refine ll_1 ⟨by omega, by omega⟩ dL_areWindows_34 ?_
      refine V_eqT (y := zI (P 13 s)) (congrArg zI ha.2.2.2.2.1) ?_
      refine V_istore (L' := [some (.ref (c 0)), some (.ref (b 0)), some (.ref (b 1)), some (.ref (b 3)), some (.ref (b 4)), some (.int (zI one)), some (.int (zI 1)), some (.int (zI (pt P))), some (.int (zI rm)), some (.int (zI s)), some (.int (zI (P 13 s))), none, none, none]) dL_areWindows_35 (by decide) rfl ?_
      refine V_iload dL_areWindows_37 rfl ?_
      have hkd := hM.mw hs.1 (show s < 4 by omega)
      unfold MW at hkd
      refine V_if_ne (tgt := 47) dL_areWindows_39 (by decide) ⟨by omega, by omega⟩ (fun c_56 => ?_) (fun c_56 => ?_)
      · refine V_iload dL_areWindows_47 rfl ?_
        refine V_iconst dL_areWindows_49 ?_
        refine V_icmp_ne (tgt := 63) dL_areWindows_50 (by decide) ⟨⟨by omega, by omega⟩, ⟨by omega, by omega⟩⟩ (fun c_57 => ?_) (fun c_57 => ?_)
        · refine V_iload dL_areWindows_63 rfl ?_
          refine V_iconst dL_areWindows_65 ?_
          refine V_icmp_ne (tgt := 87) dL_areWindows_66 (by decide) ⟨⟨by omega, by omega⟩, ⟨by omega, by omega⟩⟩ (fun c_58 => ?_) (fun c_58 => ?_)
          · refine V_aload_n dL_areWindows_87 rfl ?_
            refine V_bipush dL_areWindows_88 (by decide) ?_
            refine V_iload dL_areWindows_90 rfl ?_
            refine V_iadd dL_areWindows_92 ?_
            refine ll_1 ⟨by omega, by omega⟩ dL_areWindows_93 ?_
            refine seg_94 (τ 1 (24 + s)) ?_ ?_
            · omega
            · exact (hsz.2.2.2 (by omega)).symm
          · refine V_aload_n dL_areWindows_69 rfl ?_
            refine V_bipush dL_areWindows_70 (by decide) ?_
            refine V_iload dL_areWindows_72 rfl ?_
            refine V_iadd dL_areWindows_74 ?_
            refine ll_1 ⟨by omega, by omega⟩ dL_areWindows_75 ?_
            refine V_aload_n dL_areWindows_76 rfl ?_
            refine V_bipush dL_areWindows_77 (by decide) ?_
            refine V_iload dL_areWindows_79 rfl ?_
            refine V_iadd dL_areWindows_81 ?_
            refine ll_1 ⟨by omega, by omega⟩ dL_areWindows_82 ?_
            refine V_imul dL_areWindows_83 ?_
            refine V_goto (tgt := 94) dL_areWindows_84 (by decide) ?_
            refine seg_94 ((τ 1 (20 + s)) * (τ 1 (24 + s))) ?_ ?_
            · omega
            · exact (hsz.2.2.1 c_58).symm
        · refine V_aload_n dL_areWindows_53 rfl ?_
          refine V_bipush dL_areWindows_54 (by decide) ?_
          refine V_iload dL_areWindows_56 rfl ?_
          refine V_iadd dL_areWindows_58 ?_
          refine ll_1 ⟨by omega, by omega⟩ dL_areWindows_59 ?_
          refine V_goto (tgt := 94) dL_areWindows_60 (by decide) ?_
          refine seg_94 (τ 1 (20 + s)) ?_ ?_
          · omega
          · exact (hsz.2.1 c_57).symm
      · refine V_iload dL_areWindows_42 rfl ?_
        refine V_goto (tgt := 94) dL_areWindows_44 (by decide) ?_
        refine seg_94 (pt P) ?_ ?_
        · omega
        · exact (hsz.1 c_56).symm
  have seg_15 : ∀ (s : Int) (rm : Int) (κ1 : St) (k1 : Nat) (n1 : Nat), (0 ≤ s ∧ s ≤ P 0 2) → (rm = smv (sz P) s) → (CWP P κ1) → (k1 ≤ 10 * s.toNat) → (n1 ≤ 100 * s.toNat) → V K tL_areWindows k1 n1 (lW b τ (Y ++ fm (cO en c κ1))) [some (.ref (c 0)), some (.ref (b 0)), some (.ref (b 1)), some (.ref (b 3)), some (.ref (b 4)), some (.int (zI one)), some (.int (zI 1)), some (.int (zI (pt P))), some (.int (zI rm)), some (.int (zI s)), none, none, none, none] [] 15 := fun s rm κ1 k1 n1 hs hrm hC1 hk1 hn1 => loop_15 _ s rm κ1 k1 n1 rfl hs hrm hC1 hk1 hn1
  refine V_iconst dL_areWindows_0 ?_
  refine V_istore (L' := [some (.ref (c 0)), some (.ref (b 0)), some (.ref (b 1)), some (.ref (b 3)), some (.ref (b 4)), some (.int (zI one)), some (.int (zI 1)), none, none, none, none, none, none, none]) dL_areWindows_1 (by decide) rfl ?_
  refine V_aload_n dL_areWindows_3 rfl ?_
  refine V_callSF (As := [.ref (b 0)]) hK (q_points (EX.stb en) b τ (Y ++ fm (cO en c κ)) P ⟨hM, hL⟩) mokL_points w871 w872 ⟨Nat.le_of_ble_eq_true rfl, Nat.le_of_ble_eq_true rfl⟩ rfl (Nat.le_of_ble_eq_true rfl) ⟨Nat.le_of_ble_eq_true rfl, Nat.le_of_ble_eq_true rfl⟩ dL_areWindows_4 (fun v w p_59 => ?_)
  obtain ⟨rfl, rfl⟩ := p_59
  show V K tL_areWindows 0 0 (lW b τ (Y ++ fm (cO en c κ))) _ [.int (zI (pt P))] 7
  refine V_istore (L' := [some (.ref (c 0)), some (.ref (b 0)), some (.ref (b 1)), some (.ref (b 3)), some (.ref (b 4)), some (.int (zI one)), some (.int (zI 1)), some (.int (zI (pt P))), none, none, none, none, none, none]) dL_areWindows_7 (by decide) rfl ?_
  refine V_iconst dL_areWindows_9 ?_
  refine V_istore (L' := [some (.ref (c 0)), some (.ref (b 0)), some (.ref (b 1)), some (.ref (b 3)), some (.ref (b 4)), some (.int (zI one)), some (.int (zI 1)), some (.int (zI (pt P))), some (.int (zI 0)), none, none, none, none, none]) dL_areWindows_10 (by decide) rfl ?_
  refine V_iconst dL_areWindows_12 ?_
  refine V_istore (L' := [some (.ref (c 0)), some (.ref (b 0)), some (.ref (b 1)), some (.ref (b 3)), some (.ref (b 4)), some (.int (zI one)), some (.int (zI 1)), some (.int (zI (pt P))), some (.int (zI 0)), some (.int (zI 0)), none, none, none, none]) dL_areWindows_13 (by decide) rfl ?_
  refine seg_15 0 0 κ 0 0 ?_ ?_ ?_ ?_ ?_
  · omega
  · exact (smv_0 _).symm
  · exact hC
  · omega
  · omega

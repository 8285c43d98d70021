/-! the law: the contraction; the windows chosen -/
theorem Sw.bt {P Q : St} (h : Sw P Q) : Jvm.Pilot.@@N@@.bt Q = Jvm.Pilot.@@N@@.bt P := by rw [h]; rfl
theorem Sw.en {P Q : St} (h : Sw P Q) : Jvm.Pilot.@@N@@.en Q = Jvm.Pilot.@@N@@.en P := by rw [h]; rfl
theorem Sw.al {P Q : St} (h : Sw P Q) : Jvm.Pilot.@@N@@.al Q = Jvm.Pilot.@@N@@.al P := by rw [h]; rfl
theorem LT.sw {P Q τ : St} (h : LT P τ) (hS : Sw P Q) : LT Q τ := by unfold LT; rw [hS.bt, hS.al, hS.keys]; exact h
theorem LE.sw {P Q τ : St} (h : LE P τ) (hS : Sw P Q) : LE Q τ := by unfold LE; rw [hS.en, hS.al, hS.keys]; exact h
theorem LR.kpg {P τ τ2 : St} (h : LR P τ) {s k u v : Int} (hs : 0 ≤ s ∧ s < 4) (h0 : τ2 0 = τ 0) (h2 : τ2 2 = τ 2) (h1 : ∀ i, i ≠ 16 + s → i ≠ 20 + s → i ≠ 24 + s → τ2 1 i = τ 1 i) (hk : τ2 1 (16 + s) = k) (hu : k ≠ 0 → τ2 1 (20 + s) = u) (hv : k = 2 ∨ k = 3 → τ2 1 (24 + s) = v) : LR (kp P s k u v) τ2 := by
  obtain ⟨a, b, c, d⟩ := h
  refine ⟨by rw [h0]; exact a, b, fun i i0 i1 => ?_, by rw [h2]; exact d⟩
  obtain ⟨c1, c2, c3, c4, c5, c6, c7⟩ := c i i0 i1
  refine ⟨by rw [h1 i (by omega) (by omega) (by omega)]; exact c1, by rw [h1 (4 + i) (by omega) (by omega) (by omega)]; exact c2, by rw [h1 (8 + i) (by omega) (by omega) (by omega)]; exact c3, by rw [h1 (12 + i) (by omega) (by omega) (by omega)]; exact c4, ?_⟩
  rw [kp_13, kp_14, kp_15]
  by_cases e : i = s
  · subst e
    rw [if_pos rfl, if_pos rfl, if_pos rfl]
    exact ⟨hk, hu, hv⟩
  · rw [if_neg e, if_neg e, if_neg e, h1 (16 + i) (by omega) (by omega) (by omega), h1 (20 + i) (by omega) (by omega) (by omega), h1 (24 + i) (by omega) (by omega) (by omega)]
    exact ⟨c5, c6, c7⟩
theorem sz_kpw (P : St) (s k u v : Int) : sz (kp P s k u v) s = if k = 0 then pt P else if k = 2 then u * v else if k = 1 then u else v := by
  unfold sz
  rw [kp_13, kp_14, kp_15, if_pos rfl, if_pos rfl, if_pos rfl]
  rfl
theorem sz_kpn (P : St) {s i k u v : Int} (h : i ≠ s) : sz (kp P s k u v) i = sz P i := by
  unfold sz
  rw [kp_13, kp_14, kp_15, if_neg h, if_neg h, if_neg h]
  rfl
theorem sz_ctq1 (P : St) {s i : Int} (hs : 0 ≤ s) (h : i ≠ s) : sz (ctq P (s + 1)) i = sz (ctq P s) i := by
  rw [ctq_s P hs]
  have e3 : ∀ Q : St, sz (cw3 P s Q) i = sz Q i := fun Q => by unfold cw3; split <;> first | exact sz_kpn _ h | rfl
  have e2 : ∀ Q : St, sz (cw2 P s Q) i = sz Q i := fun Q => by unfold cw2; split <;> first | exact sz_kpn _ h | rfl
  have e1 : ∀ Q : St, sz (cw1 P s Q) i = sz Q i := fun Q => by unfold cw1; split <;> first | exact sz_kpn _ h | rfl
  rw [e3, e2, e1, sz_kpn _ h]
def rmOf (P : St) (n : Int) : Prop := smv (fun i => sz (ctq P (i + 1)) i) n = smv (sz (ctq P n)) n
theorem room_ctq (P : St) : ∀ n, 0 ≤ n → rmOf P n := by
  refine int_ind ?_ (fun k hk ih => ?_)
  · show smv _ 0 = smv _ 0
    rw [smv_0, smv_0]
  · show smv _ (k + 1) = smv _ (k + 1)
    have ih2 : smv (fun i => sz (ctq P (i + 1)) i) k = smv (sz (ctq P k)) k := ih
    rw [smv_s _ hk, smv_s _ hk, ih2]
    rw [smv_congr (f := sz (ctq P k)) (g := sz (ctq P (k + 1))) k hk (fun j a b => (sz_ctq1 P hk (by omega)).symm)]
theorem r_contract (en c : Nat → Nat) (κ : St) (P : St) (hp : MI P ∧ CWP P κ) : MC (EN en) yX10_contract sX10_contract [.ref (c 0)] (fm (cO en c κ)) (fun v w => ∃ κ2 : St, v = some (.int (zI (smv (sz (ctq P (P 0 2))) (P 0 2)))) ∧ w = fm (cO en c κ2) ∧ CWP (ctq P (P 0 2)) κ2) :=
  MC.post (k_contract en c κ P ⟨hp.1, hp.2.1, hp.2.2.1, hp.2.2.2⟩) (fun v w ⟨κ2, h1, h2, h3, h4⟩ => ⟨κ2, h1, h2, h4⟩)
set_option maxRecDepth 100000 in
set_option maxHeartbeats 4000000 in
theorem q_isContracted (en c b : Nat → Nat) (κ τ : St) (Y : vWd) (P : St) (hp : MI P ∧ LR P τ ∧ CWP P κ ∧ LT P τ ∧ LE P τ) : MC (EX en) yL_isContracted tL_isContracted [.ref (c 0), .ref (b 0), .ref (b 1), .ref (b 3), .ref (b 4)] (lW b τ (Y ++ fm (cO en c κ))) (fun v w => ∃ (κ2 : St) (τ2 : St), v = some (.int (zI (bz true))) ∧ w = (lW b τ2 (Y ++ fm (cO en c κ2))) ∧ (MI (ctq P (P 0 2))) ∧ (LR (ctq P (P 0 2)) τ2) ∧ (CWP (ctq P (P 0 2)) κ2) ∧ (LT (ctq P (P 0 2)) τ2) ∧ (LE (ctq P (P 0 2)) τ2)) := by
  refine MC.of (EX.stb en) [some (.ref (c 0)), some (.ref (b 0)), some (.ref (b 1)), some (.ref (b 3)), some (.ref (b 4)), none, none, none, none, none, none] 6 rfl rfl rfl (by simp [Value.category]) (Nat.le_of_ble_eq_true rfl) (fun K hK hR => ?_)
  obtain ⟨hM, hL, hC, hp⟩ := hp
  have mR := hM.1
  have mC := hM.2.1
  have mN := hM.2.2.1
  have mp := hM.pts
  have ma := hM.als
  have mV := hM.2.2.2.1
  have mW := hM.2.2.2.2.1
  obtain ⟨hT, hE4⟩ := hp
  have hsm := hL.small hM
  have loop_6 : ∀ (n0 : Nat) (s : Int) (rm : Int) (τ1 : St), (P 0 2 - s).toNat = n0 → (0 ≤ s ∧ s ≤ P 0 2) → (MS P (ctq P s)) → (fr [1] τ τ1) → (LR (ctq P s) τ1) → (rm = smv (fun i => sz (ctq P (i + 1)) i) s) → V K tL_isContracted 0 0 (lW b τ1 (Y ++ fm (cO en c κ))) [some (.ref (c 0)), some (.ref (b 0)), some (.ref (b 1)), some (.ref (b 3)), some (.ref (b 4)), some (.int (zI rm)), some (.int (zI s)), none, none, none, none] [] 6 := by
    intro n0
    induction n0 using Nat.strongRecOn with
    | _ n0 ih_6 =>
    intro s rm τ1 hm_6 hs hQ hf hL1 hrm
    have hMs := hQ.1
    have hSw := hQ.2
    have hTs : LT (ctq P s) τ1 := (hT.same (hf 3 (by decide))).sw hSw
    have hEs : LE (ctq P s) τ1 := (hE4.same (hf 4 (by decide))).sw hSw
    have seg_89 : ∀ (x : Int) (τ89 : St), (s < P 0 2) → (fr [1] τ τ89) → (LR (cw1 P s (kp (ctq P s) s 0 0 0)) τ89) → (x = sz (cw1 P s (kp (ctq P s) s 0 0 0)) s) → V K tL_isContracted 0 0 (lW b τ89 (Y ++ fm (cO en c κ))) [some (.ref (c 0)), some (.ref (b 0)), some (.ref (b 1)), some (.ref (b 3)), some (.ref (b 4)), some (.int (zI rm)), some (.int (zI s)), some (.int (zI (lr P (P 0 11) (P 0 12) s))), some (.int (zI (100 * tw1 P (P 0 11) (P 0 12) s + tw2 P (P 0 11) (P 0 12) s))), some (.int (zI (ls P (P 0 11) (P 0 12) s))), some (.int (zI x))] [] 89 := by
      intro x τ89 hsn hf89 hQ89 hx89
      have seg_150 : ∀ (x : Int) (τ150 : St), (fr [1] τ τ150) → (LR (cw2 P s (cw1 P s (kp (ctq P s) s 0 0 0))) τ150) → (x = sz (cw2 P s (cw1 P s (kp (ctq P s) s 0 0 0))) s) → V K tL_isContracted 0 0 (lW b τ150 (Y ++ fm (cO en c κ))) [some (.ref (c 0)), some (.ref (b 0)), some (.ref (b 1)), some (.ref (b 3)), some (.ref (b 4)), some (.int (zI rm)), some (.int (zI s)), some (.int (zI (lr P (P 0 11) (P 0 12) s))), some (.int (zI (100 * tw1 P (P 0 11) (P 0 12) s + tw2 P (P 0 11) (P 0 12) s))), some (.int (zI (ls P (P 0 11) (P 0 12) s))), some (.int (zI x))] [] 150 := by
        intro x τ150 hf150 hQ150 hx150
        have seg_199 : ∀ (x : Int) (τ199 : St), (fr [1] τ τ199) → (LR (ctq P (s + 1)) τ199) → (x = sz (ctq P (s + 1)) s) → V K tL_isContracted 0 0 (lW b τ199 (Y ++ fm (cO en c κ))) [some (.ref (c 0)), some (.ref (b 0)), some (.ref (b 1)), some (.ref (b 3)), some (.ref (b 4)), some (.int (zI rm)), some (.int (zI s)), some (.int (zI (lr P (P 0 11) (P 0 12) s))), some (.int (zI (100 * tw1 P (P 0 11) (P 0 12) s + tw2 P (P 0 11) (P 0 12) s))), some (.int (zI (ls P (P 0 11) (P 0 12) s))), some (.int (zI x))] [] 199 := by
          intro x τ199 hf199 hQ199 hx199
          refine V_iload dL_isContracted_199 rfl ?_
          refine V_iload dL_isContracted_201 rfl ?_
          refine V_iadd dL_isContracted_203 ?_
          refine V_istore (L' := [some (.ref (c 0)), some (.ref (b 0)), some (.ref (b 1)), some (.ref (b 3)), some (.ref (b 4)), some (.int (zI (rm + x))), some (.int (zI s)), some (.int (zI (lr P (P 0 11) (P 0 12) s))), some (.int (zI (100 * tw1 P (P 0 11) (P 0 12) s + tw2 P (P 0 11) (P 0 12) s))), some (.int (zI (ls P (P 0 11) (P 0 12) s))), some (.int (zI x))]) dL_isContracted_204 (by decide) rfl ?_
          refine V_iinc (L' := [some (.ref (c 0)), some (.ref (b 0)), some (.ref (b 1)), some (.ref (b 3)), some (.ref (b 4)), some (.int (zI (rm + x))), some (.int (zI (s + 1))), some (.int (zI (lr P (P 0 11) (P 0 12) s))), some (.int (zI (100 * tw1 P (P 0 11) (P 0 12) s + tw2 P (P 0 11) (P 0 12) s))), some (.int (zI (ls P (P 0 11) (P 0 12) s))), some (.int (zI x))]) dL_isContracted_206 (by decide) rfl rfl ?_
          refine V_goto (tgt := 6) dL_isContracted_209 (by decide) ?_
          refine V_mask (L' := [some (.ref (c 0)), some (.ref (b 0)), some (.ref (b 1)), some (.ref (b 3)), some (.ref (b 4)), some (.int (zI (rm + x))), some (.int (zI (s + 1))), none, none, none, none]) [true, true, true, true, true, true, true, false, false, false, false] rfl ?_
          refine ih_6 _ (by omega) (s + 1) (rm + x) τ199 rfl ?_ ?_ ?_ ?_ ?_
          · omega
          · exact ms_ctq hM hs.1 hQ
          · exact hf199
          · exact hQ199
          · rw [smv_s _ hs.1, ← hrm, hx199]
        have hlsp := ls_spec hM (P 0 11) (P 0 12) s
        have hls1 := hlsp.1.1
        have hls2 := hlsp.2
        have hmC := (ms_2 hM (ms_1 hM (ms_0 hQ s) s) s).1
        have hxb := sz_b hmC hs.1 (show s < 4 by omega)
        rw [← hx150] at hxb
        refine V_iload dL_isContracted_150 rfl ?_
        refine V_bipush dL_isContracted_152 (by decide) ?_
        refine V_idiv dL_isContracted_154 ⟨⟨by omega, by omega⟩, ⟨by omega, by omega⟩, by omega, by omega⟩ ?_
        refine V_iload dL_isContracted_155 rfl ?_
        refine V_icmp_ge (tgt := 199) dL_isContracted_157 (by decide) ⟨⟨by omega, by omega⟩, ⟨by omega, by omega⟩⟩ (fun c_1 => ?_) (fun c_1 => ?_)
        · refine seg_199 x τ150 ?_ ?_ ?_
          · exact hf150
          · rw [ctq_s P hs.1, show cw3 P s (cw2 P s (cw1 P s (kp (ctq P s) s 0 0 0))) = (cw2 P s (cw1 P s (kp (ctq P s) s 0 0 0))) from if_neg (by rw [← hx150]; omega)]; exact hQ150
          · rw [ctq_s P hs.1, show cw3 P s (cw2 P s (cw1 P s (kp (ctq P s) s 0 0 0))) = (cw2 P s (cw1 P s (kp (ctq P s) s 0 0 0))) from if_neg (by rw [← hx150]; omega)]; exact hx150
        · refine V_aload_n dL_isContracted_160 rfl ?_
          refine V_bipush dL_isContracted_161 (by decide) ?_
          refine V_iload dL_isContracted_163 rfl ?_
          refine V_iadd dL_isContracted_165 ?_
          refine V_iconst dL_isContracted_166 ?_
          refine ls_1 ⟨by omega, by omega⟩ dL_isContracted_167 ?_
          refine V_aload_n dL_isContracted_168 rfl ?_
          refine V_bipush dL_isContracted_169 (by decide) ?_
          refine V_iload dL_isContracted_171 rfl ?_
          refine V_iadd dL_isContracted_173 ?_
          refine V_iload dL_isContracted_174 rfl ?_
          refine V_bipush dL_isContracted_176 (by decide) ?_
          refine V_iremN dL_isContracted_178 ⟨⟨by omega, by omega⟩, ⟨by omega, by omega⟩, by omega, by omega⟩ ?_
          refine ls_1 ⟨by omega, by omega⟩ dL_isContracted_179 ?_
          refine V_aload_n dL_isContracted_180 rfl ?_
          refine V_bipush dL_isContracted_181 (by decide) ?_
          refine V_iload dL_isContracted_183 rfl ?_
          refine V_iadd dL_isContracted_185 ?_
          refine V_iload dL_isContracted_186 rfl ?_
          refine V_bipush dL_isContracted_188 (by decide) ?_
          refine V_idiv dL_isContracted_190 ⟨⟨by omega, by omega⟩, ⟨by omega, by omega⟩, by omega, by omega⟩ ?_
          refine ls_1 ⟨by omega, by omega⟩ dL_isContracted_191 ?_
          refine V_iload dL_isContracted_192 rfl ?_
          refine V_bipush dL_isContracted_194 (by decide) ?_
          refine V_idiv dL_isContracted_196 ⟨⟨by omega, by omega⟩, ⟨by omega, by omega⟩, by omega, by omega⟩ ?_
          refine V_istore (L' := [some (.ref (c 0)), some (.ref (b 0)), some (.ref (b 1)), some (.ref (b 3)), some (.ref (b 4)), some (.int (zI rm)), some (.int (zI s)), some (.int (zI (lr P (P 0 11) (P 0 12) s))), some (.int (zI (100 * tw1 P (P 0 11) (P 0 12) s + tw2 P (P 0 11) (P 0 12) s))), some (.int (zI (ls P (P 0 11) (P 0 12) s))), some (.int (zI ((ls P (P 0 11) (P 0 12) s) / 10)))]) dL_isContracted_197 (by decide) rfl ?_
          refine seg_199 ((ls P (P 0 11) (P 0 12) s) / 10) (up (up (up τ150 1 (16 + s) 3) 1 (20 + s) ((ls P (P 0 11) (P 0 12) s) % 10)) 1 (24 + s) ((ls P (P 0 11) (P 0 12) s) / 10)) ?_ ?_ ?_
          · exact ((hf150.upd (by decide)).upd (by decide)).upd (by decide)
          · rw [ctq_s P hs.1, show cw3 P s (cw2 P s (cw1 P s (kp (ctq P s) s 0 0 0))) = kp (cw2 P s (cw1 P s (kp (ctq P s) s 0 0 0))) s 3 (ls P (P 0 11) (P 0 12) s % 10) (ls P (P 0 11) (P 0 12) s / 10) from if_pos (by rw [← hx150]; omega)]
            exact hQ150.kpg ⟨hs.1, by omega⟩ rfl rfl (fun i a b c => by rw [up_eq, fup_ne c, up_eq, fup_ne b, up_eq, fup_ne a]) (by rw [up_eq, fup_ne (by omega), up_eq, fup_ne (by omega), up_eq, fup_eq]) (fun _ => by rw [up_eq, fup_ne (by omega), up_eq, fup_eq]) (fun _ => by rw [up_eq, fup_eq])
          · rw [ctq_s P hs.1, show cw3 P s (cw2 P s (cw1 P s (kp (ctq P s) s 0 0 0))) = kp (cw2 P s (cw1 P s (kp (ctq P s) s 0 0 0))) s 3 (ls P (P 0 11) (P 0 12) s % 10) (ls P (P 0 11) (P 0 12) s / 10) from if_pos (by rw [← hx150]; omega), sz_kpw]; rfl
      have hlr := lr_b hM (P 0 11) (P 0 12) s
      have h2b := two_b hM (P 0 11) (P 0 12) s
      have hlsp := ls_spec hM (P 0 11) (P 0 12) s
      have hls1 := hlsp.1.1
      have hls2 := hlsp.2
      have hmB := (ms_1 hM (ms_0 hQ s) s).1
      have hxb := sz_b hmB hs.1 (show s < 4 by omega)
      rw [← hx89] at hxb
      have htm := mulB (a := tw1 P (P 0 11) (P 0 12) s) (b := tw2 P (P 0 11) (P 0 12) s) (A := 8) (B := 8) (by omega) (by omega) (by omega) (by omega)
      refine V_iload dL_isContracted_89 rfl ?_
      refine V_bipush dL_isContracted_91 (by decide) ?_
      refine V_idiv dL_isContracted_93 ⟨⟨by omega, by omega⟩, ⟨by omega, by omega⟩, by omega, by omega⟩ ?_
      refine V_eqT (y := zI (tw1 P (P 0 11) (P 0 12) s)) (congrArg zI (by omega)) ?_
      refine V_iload dL_isContracted_94 rfl ?_
      refine V_bipush dL_isContracted_96 (by decide) ?_
      refine V_iremN dL_isContracted_98 ⟨⟨by omega, by omega⟩, ⟨by omega, by omega⟩, by omega, by omega⟩ ?_
      refine V_eqT (y := zI (tw2 P (P 0 11) (P 0 12) s)) (congrArg zI (by omega)) ?_
      refine V_imul dL_isContracted_99 ?_
      refine V_iload dL_isContracted_100 rfl ?_
      refine V_icmp_ge (tgt := 150) dL_isContracted_102 (by decide) ⟨⟨by omega, by omega⟩, ⟨by omega, by omega⟩⟩ (fun c_2 => ?_) (fun c_2 => ?_)
      · refine seg_150 x τ89 ?_ ?_ ?_
        · exact hf89
        · rw [show (cw2 P s (cw1 P s (kp (ctq P s) s 0 0 0))) = (cw1 P s (kp (ctq P s) s 0 0 0)) from if_neg (by rw [← hx89]; omega)]; exact hQ89
        · rw [show (cw2 P s (cw1 P s (kp (ctq P s) s 0 0 0))) = (cw1 P s (kp (ctq P s) s 0 0 0)) from if_neg (by rw [← hx89]; omega)]; exact hx89
      · refine V_aload_n dL_isContracted_105 rfl ?_
        refine V_bipush dL_isContracted_106 (by decide) ?_
        refine V_iload dL_isContracted_108 rfl ?_
        refine V_iadd dL_isContracted_110 ?_
        refine V_iconst dL_isContracted_111 ?_
        refine ls_1 ⟨by omega, by omega⟩ dL_isContracted_112 ?_
        refine V_aload_n dL_isContracted_113 rfl ?_
        refine V_bipush dL_isContracted_114 (by decide) ?_
        refine V_iload dL_isContracted_116 rfl ?_
        refine V_iadd dL_isContracted_118 ?_
        refine V_iload dL_isContracted_119 rfl ?_
        refine V_bipush dL_isContracted_121 (by decide) ?_
        refine V_idiv dL_isContracted_123 ⟨⟨by omega, by omega⟩, ⟨by omega, by omega⟩, by omega, by omega⟩ ?_
        refine V_eqT (y := zI (tw1 P (P 0 11) (P 0 12) s)) (congrArg zI (by omega)) ?_
        refine ls_1 ⟨by omega, by omega⟩ dL_isContracted_124 ?_
        refine V_aload_n dL_isContracted_125 rfl ?_
        refine V_bipush dL_isContracted_126 (by decide) ?_
        refine V_iload dL_isContracted_128 rfl ?_
        refine V_iadd dL_isContracted_130 ?_
        refine V_iload dL_isContracted_131 rfl ?_
        refine V_bipush dL_isContracted_133 (by decide) ?_
        refine V_iremN dL_isContracted_135 ⟨⟨by omega, by omega⟩, ⟨by omega, by omega⟩, by omega, by omega⟩ ?_
        refine V_eqT (y := zI (tw2 P (P 0 11) (P 0 12) s)) (congrArg zI (by omega)) ?_
        refine ls_1 ⟨by omega, by omega⟩ dL_isContracted_136 ?_
        refine V_iload dL_isContracted_137 rfl ?_
        refine V_bipush dL_isContracted_139 (by decide) ?_
        refine V_idiv dL_isContracted_141 ⟨⟨by omega, by omega⟩, ⟨by omega, by omega⟩, by omega, by omega⟩ ?_
        refine V_eqT (y := zI (tw1 P (P 0 11) (P 0 12) s)) (congrArg zI (by omega)) ?_
        refine V_iload dL_isContracted_142 rfl ?_
        refine V_bipush dL_isContracted_144 (by decide) ?_
        refine V_iremN dL_isContracted_146 ⟨⟨by omega, by omega⟩, ⟨by omega, by omega⟩, by omega, by omega⟩ ?_
        refine V_eqT (y := zI (tw2 P (P 0 11) (P 0 12) s)) (congrArg zI (by omega)) ?_
        refine V_imul dL_isContracted_147 ?_
        refine V_istore (L' := [some (.ref (c 0)), some (.ref (b 0)), some (.ref (b 1)), some (.ref (b 3)), some (.ref (b 4)), some (.int (zI rm)), some (.int (zI s)), some (.int (zI (lr P (P 0 11) (P 0 12) s))), some (.int (zI (100 * tw1 P (P 0 11) (P 0 12) s + tw2 P (P 0 11) (P 0 12) s))), some (.int (zI (ls P (P 0 11) (P 0 12) s))), some (.int (zI ((tw1 P (P 0 11) (P 0 12) s) * (tw2 P (P 0 11) (P 0 12) s))))]) dL_isContracted_148 (by decide) rfl ?_
        refine seg_150 ((tw1 P (P 0 11) (P 0 12) s) * (tw2 P (P 0 11) (P 0 12) s)) (up (up (up τ89 1 (16 + s) 2) 1 (20 + s) (tw1 P (P 0 11) (P 0 12) s)) 1 (24 + s) (tw2 P (P 0 11) (P 0 12) s)) ?_ ?_ ?_
        · exact ((hf89.upd (by decide)).upd (by decide)).upd (by decide)
        · rw [show (cw2 P s (cw1 P s (kp (ctq P s) s 0 0 0))) = kp (cw1 P s (kp (ctq P s) s 0 0 0)) s 2 (tw1 P (P 0 11) (P 0 12) s) (tw2 P (P 0 11) (P 0 12) s) from if_pos (by rw [← hx89]; omega)]
          exact hQ89.kpg ⟨hs.1, by omega⟩ rfl rfl (fun i a b c => by rw [up_eq, fup_ne c, up_eq, fup_ne b, up_eq, fup_ne a]) (by rw [up_eq, fup_ne (by omega), up_eq, fup_ne (by omega), up_eq, fup_eq]) (fun _ => by rw [up_eq, fup_ne (by omega), up_eq, fup_eq]) (fun _ => by rw [up_eq, fup_eq])
        · rw [show (cw2 P s (cw1 P s (kp (ctq P s) s 0 0 0))) = kp (cw1 P s (kp (ctq P s) s 0 0 0)) s 2 (tw1 P (P 0 11) (P 0 12) s) (tw2 P (P 0 11) (P 0 12) s) from if_pos (by rw [← hx89]; omega), sz_kpw]; rfl
    refine V_iload dL_isContracted_6 rfl ?_
    refine V_aload_n dL_isContracted_8 rfl ?_
    refine V_iconst dL_isContracted_9 ?_
    refine ll_0 ⟨by omega, by omega⟩ dL_isContracted_10 ?_
    refine V_eqT (y := zI (ctq P s 0 2)) (congrArg zI (LR.g2 hL1)) ?_
    refine V_eqT (y := zI (P 0 2)) (by rw [hSw.keys]) ?_
    refine V_icmp_ge (tgt := 212) dL_isContracted_11 (by decide) ⟨⟨by omega, by omega⟩, ⟨by omega, by omega⟩⟩ (fun c_3 => ?_) (fun c_3 => ?_)
    · have he : s = P 0 2 := by omega
      subst he
      have hrc := room_ctq P (P 0 2) mN.1
      unfold rmOf at hrc
      rw [← hrm] at hrc
      have hsb := smv_b (f := sz (ctq P (P 0 2))) (B := 9801) (P 0 2) mN.1 (fun j a b => by have := sz_b hMs a (show j < 4 by omega); omega)
      refine V_aload_n dL_isContracted_212 rfl ?_
      refine V_callVB (As := []) (b := c 0) (ci := 9) (fs := cwF c κ) (T := TX10) (N := 9) (lW_cw b τ1 Y en c κ) rfl (wr := (lW b τ1 Y)) (wc := fm (cO en c κ)) rfl hK (MC.env EX.en (r_contract en c κ P ⟨hM, hC⟩)) mokX10_contract w360 w361 w362 ⟨Nat.le_of_ble_eq_true rfl, Nat.le_of_ble_eq_true rfl⟩ rfl (Nat.le_of_ble_eq_true rfl) ⟨Nat.le_of_ble_eq_true rfl, Nat.le_of_ble_eq_true rfl⟩ dL_isContracted_213 (fun v w p_4 => ?_)
      obtain ⟨κ_5, rfl, rfl, q_6⟩ := p_4
      show V K tL_isContracted 0 0 (lW b τ1 (Y ++ fm (cO en c κ_5))) _ [.int (zI (smv (sz (ctq P (P 0 2))) (P 0 2)))] 216
      refine V_iload dL_isContracted_216 rfl ?_
      refine V_icmp_ne (tgt := 225) dL_isContracted_218 (by decide) ⟨⟨by omega, by omega⟩, ⟨by omega, by omega⟩⟩ (fun c_7 => absurd (hrc.symm) c_7) (fun _ => ?_)
      refine V_iconst dL_isContracted_221 ?_
      refine V_goto (tgt := 226) dL_isContracted_222 (by decide) ?_
      show V K tL_isContracted 0 0 _ _ [.int (zI (bz true))] 226
      refine V_zret hR rfl (Nat.le_of_ble_eq_true rfl) (Nat.le_of_ble_eq_true rfl) dL_isContracted_226 ?_
      exact ⟨_, _, rfl, rfl, hMs, hL1, q_6, hTs, hEs⟩
    · have hlr := lr_b hM (P 0 11) (P 0 12) s
      have h2b := two_b hM (P 0 11) (P 0 12) s
      have hlsp := ls_spec hM (P 0 11) (P 0 12) s
      have hls1 := hlsp.1.1
      have hls2 := hlsp.2
      refine V_aload_n dL_isContracted_14 rfl ?_
      refine V_aload_n dL_isContracted_15 rfl ?_
      refine V_aload dL_isContracted_16 rfl ?_
      refine V_iload dL_isContracted_18 rfl ?_
      refine V_callSF (As := [.ref (b 0), .ref (b 3), .ref (b 4), .int (zI s)]) hK (q_rest (EX.stb en) b τ1 (Y ++ fm (cO en c κ)) s (ctq P s) ⟨hMs, hL1, hTs, hEs, hs.1, by rw [hSw.keys]; omega⟩) mokL_rest w948 w949 ⟨Nat.le_of_ble_eq_true rfl, Nat.le_of_ble_eq_true rfl⟩ rfl (Nat.le_of_ble_eq_true rfl) ⟨Nat.le_of_ble_eq_true rfl, Nat.le_of_ble_eq_true rfl⟩ dL_isContracted_20 (fun v w p_8 => ?_)
      obtain ⟨rfl, rfl⟩ := p_8
      show V K tL_isContracted 0 0 (lW b τ1 (Y ++ fm (cO en c κ))) _ [.int (zI (lr (ctq P s) ((ctq P s) 0 11) ((ctq P s) 0 12) s))] 23
      refine V_eqT (y := zI (lr P (P 0 11) (P 0 12) s)) (by rw [hSw.keys, hSw.lr]) ?_
      refine V_istore (L' := [some (.ref (c 0)), some (.ref (b 0)), some (.ref (b 1)), some (.ref (b 3)), some (.ref (b 4)), some (.int (zI rm)), some (.int (zI s)), some (.int (zI (lr P (P 0 11) (P 0 12) s))), none, none, none]) dL_isContracted_23 (by decide) rfl ?_
      refine V_aload_n dL_isContracted_25 rfl ?_
      refine V_aload_n dL_isContracted_26 rfl ?_
      refine V_aload dL_isContracted_27 rfl ?_
      refine V_iload dL_isContracted_29 rfl ?_
      refine V_callSF (As := [.ref (b 0), .ref (b 3), .ref (b 4), .int (zI s)]) hK (q_two (EX.stb en) b τ1 (Y ++ fm (cO en c κ)) s (ctq P s) ⟨hMs, hL1, hTs, hEs, hs.1, by rw [hSw.keys]; omega⟩) mokL_two w951 w952 ⟨Nat.le_of_ble_eq_true rfl, Nat.le_of_ble_eq_true rfl⟩ rfl (Nat.le_of_ble_eq_true rfl) ⟨Nat.le_of_ble_eq_true rfl, Nat.le_of_ble_eq_true rfl⟩ dL_isContracted_31 (fun v w p_9 => ?_)
      obtain ⟨rfl, rfl⟩ := p_9
      show V K tL_isContracted 0 0 (lW b τ1 (Y ++ fm (cO en c κ))) _ [.int (zI (100 * tw1 (ctq P s) ((ctq P s) 0 11) ((ctq P s) 0 12) s + tw2 (ctq P s) ((ctq P s) 0 11) ((ctq P s) 0 12) s))] 34
      refine V_eqT (y := zI (100 * tw1 P (P 0 11) (P 0 12) s + tw2 P (P 0 11) (P 0 12) s)) (by rw [hSw.keys, hSw.tw1, hSw.tw2]) ?_
      refine V_istore (L' := [some (.ref (c 0)), some (.ref (b 0)), some (.ref (b 1)), some (.ref (b 3)), some (.ref (b 4)), some (.int (zI rm)), some (.int (zI s)), some (.int (zI (lr P (P 0 11) (P 0 12) s))), some (.int (zI (100 * tw1 P (P 0 11) (P 0 12) s + tw2 P (P 0 11) (P 0 12) s))), none, none]) dL_isContracted_34 (by decide) rfl ?_
      refine V_aload_n dL_isContracted_36 rfl ?_
      refine V_aload_n dL_isContracted_37 rfl ?_
      refine V_aload dL_isContracted_38 rfl ?_
      refine V_iload dL_isContracted_40 rfl ?_
      refine V_callSF (As := [.ref (b 0), .ref (b 3), .ref (b 4), .int (zI s)]) hK (q_slant (EX.stb en) b τ1 (Y ++ fm (cO en c κ)) s (ctq P s) ⟨hMs, hL1, hTs, hEs, hs.1, by rw [hSw.keys]; omega⟩) mokL_slant w954 w955 ⟨Nat.le_of_ble_eq_true rfl, Nat.le_of_ble_eq_true rfl⟩ rfl (Nat.le_of_ble_eq_true rfl) ⟨Nat.le_of_ble_eq_true rfl, Nat.le_of_ble_eq_true rfl⟩ dL_isContracted_42 (fun v w p_10 => ?_)
      obtain ⟨rfl, rfl⟩ := p_10
      show V K tL_isContracted 0 0 (lW b τ1 (Y ++ fm (cO en c κ))) _ [.int (zI (ls (ctq P s) ((ctq P s) 0 11) ((ctq P s) 0 12) s))] 45
      refine V_eqT (y := zI (ls P (P 0 11) (P 0 12) s)) (by rw [hSw.keys, hSw.ls]) ?_
      refine V_istore (L' := [some (.ref (c 0)), some (.ref (b 0)), some (.ref (b 1)), some (.ref (b 3)), some (.ref (b 4)), some (.int (zI rm)), some (.int (zI s)), some (.int (zI (lr P (P 0 11) (P 0 12) s))), some (.int (zI (100 * tw1 P (P 0 11) (P 0 12) s + tw2 P (P 0 11) (P 0 12) s))), some (.int (zI (ls P (P 0 11) (P 0 12) s))), none]) dL_isContracted_45 (by decide) rfl ?_
      refine V_aload_n dL_isContracted_47 rfl ?_
      refine V_callSF (As := [.ref (b 0)]) hK (q_points (EX.stb en) b τ1 (Y ++ fm (cO en c κ)) (ctq P s) ⟨hMs, hL1⟩) mokL_points w871 w872 ⟨Nat.le_of_ble_eq_true rfl, Nat.le_of_ble_eq_true rfl⟩ rfl (Nat.le_of_ble_eq_true rfl) ⟨Nat.le_of_ble_eq_true rfl, Nat.le_of_ble_eq_true rfl⟩ dL_isContracted_48 (fun v w p_11 => ?_)
      obtain ⟨rfl, rfl⟩ := p_11
      show V K tL_isContracted 0 0 (lW b τ1 (Y ++ fm (cO en c κ))) _ [.int (zI (pt (ctq P s)))] 51
      refine V_eqT (y := zI (pt P)) (by rw [hSw.pt]) ?_
      refine V_istore (L' := [some (.ref (c 0)), some (.ref (b 0)), some (.ref (b 1)), some (.ref (b 3)), some (.ref (b 4)), some (.int (zI rm)), some (.int (zI s)), some (.int (zI (lr P (P 0 11) (P 0 12) s))), some (.int (zI (100 * tw1 P (P 0 11) (P 0 12) s + tw2 P (P 0 11) (P 0 12) s))), some (.int (zI (ls P (P 0 11) (P 0 12) s))), some (.int (zI (pt P)))]) dL_isContracted_51 (by decide) rfl ?_
      refine V_aload_n dL_isContracted_53 rfl ?_
      refine V_bipush dL_isContracted_54 (by decide) ?_
      refine V_iload dL_isContracted_56 rfl ?_
      refine V_iadd dL_isContracted_58 ?_
      refine V_iconst dL_isContracted_59 ?_
      refine ls_1 ⟨by omega, by omega⟩ dL_isContracted_60 ?_
      have hLA : LR (kp (ctq P s) s 0 0 0) (up τ1 1 (16 + s) 0) := hL1.kpg ⟨hs.1, by omega⟩ rfl rfl (fun i a b c => by rw [up_eq, fup_ne a]) (by rw [up_eq, fup_eq]) (fun h => absurd rfl h) (fun h => absurd h (by decide))
      have hxA : pt P = sz (kp (ctq P s) s 0 0 0) s := by rw [sz_kpw, if_pos rfl]; exact (hSw.pt).symm
      refine V_iload dL_isContracted_61 rfl ?_
      refine V_iload dL_isContracted_63 rfl ?_
      refine V_icmp_ge (tgt := 89) dL_isContracted_65 (by decide) ⟨⟨by omega, by omega⟩, ⟨by omega, by omega⟩⟩ (fun c_12 => ?_) (fun c_12 => ?_)
      · refine seg_89 (pt P) (up τ1 1 (16 + s) 0) ?_ ?_ ?_ ?_
        · omega
        · exact hf.upd (by decide)
        · rw [show (cw1 P s (kp (ctq P s) s 0 0 0)) = (kp (ctq P s) s 0 0 0) from if_neg (by rw [← hxA]; omega)]; exact hLA
        · rw [show (cw1 P s (kp (ctq P s) s 0 0 0)) = (kp (ctq P s) s 0 0 0) from if_neg (by rw [← hxA]; omega)]; exact hxA
      · refine V_aload_n dL_isContracted_68 rfl ?_
        refine V_bipush dL_isContracted_69 (by decide) ?_
        refine V_iload dL_isContracted_71 rfl ?_
        refine V_iadd dL_isContracted_73 ?_
        refine V_iconst dL_isContracted_74 ?_
        refine ls_1 ⟨by omega, by omega⟩ dL_isContracted_75 ?_
        refine V_aload_n dL_isContracted_76 rfl ?_
        refine V_bipush dL_isContracted_77 (by decide) ?_
        refine V_iload dL_isContracted_79 rfl ?_
        refine V_iadd dL_isContracted_81 ?_
        refine V_iload dL_isContracted_82 rfl ?_
        refine ls_1 ⟨by omega, by omega⟩ dL_isContracted_84 ?_
        refine V_iload dL_isContracted_85 rfl ?_
        refine V_istore (L' := [some (.ref (c 0)), some (.ref (b 0)), some (.ref (b 1)), some (.ref (b 3)), some (.ref (b 4)), some (.int (zI rm)), some (.int (zI s)), some (.int (zI (lr P (P 0 11) (P 0 12) s))), some (.int (zI (100 * tw1 P (P 0 11) (P 0 12) s + tw2 P (P 0 11) (P 0 12) s))), some (.int (zI (ls P (P 0 11) (P 0 12) s))), some (.int (zI (lr P (P 0 11) (P 0 12) s)))]) dL_isContracted_87 (by decide) rfl ?_
        refine seg_89 (lr P (P 0 11) (P 0 12) s) (up (up (up τ1 1 (16 + s) 0) 1 (16 + s) 1) 1 (20 + s) (lr P (P 0 11) (P 0 12) s)) ?_ ?_ ?_ ?_
        · omega
        · exact ((hf.upd (by decide)).upd (by decide)).upd (by decide)
        · rw [show (cw1 P s (kp (ctq P s) s 0 0 0)) = kp (kp (ctq P s) s 0 0 0) s 1 (lr P (P 0 11) (P 0 12) s) 0 from if_pos (by rw [← hxA]; omega)]
          exact hLA.kpg ⟨hs.1, by omega⟩ rfl rfl (fun i a b c => by rw [up_eq, fup_ne b, up_eq, fup_ne a]) (by rw [up_eq, fup_ne (by omega), up_eq, fup_eq]) (fun _ => by rw [up_eq, fup_eq]) (fun h => absurd h (by decide))
        · rw [show (cw1 P s (kp (ctq P s) s 0 0 0)) = kp (kp (ctq P s) s 0 0 0) s 1 (lr P (P 0 11) (P 0 12) s) 0 from if_pos (by rw [← hxA]; omega), sz_kpw]; rfl
  have seg_6 : ∀ (s : Int) (rm : Int) (τ1 : St), (0 ≤ s ∧ s ≤ P 0 2) → (MS P (ctq P s)) → (fr [1] τ τ1) → (LR (ctq P s) τ1) → (rm = smv (fun i => sz (ctq P (i + 1)) i) s) → V K tL_isContracted 0 0 (lW b τ1 (Y ++ fm (cO en c κ))) [some (.ref (c 0)), some (.ref (b 0)), some (.ref (b 1)), some (.ref (b 3)), some (.ref (b 4)), some (.int (zI rm)), some (.int (zI s)), none, none, none, none] [] 6 := fun s rm τ1 hs hQ hf hL1 hrm => loop_6 _ s rm τ1 rfl hs hQ hf hL1 hrm
  refine V_iconst dL_isContracted_0 ?_
  refine V_istore (L' := [some (.ref (c 0)), some (.ref (b 0)), some (.ref (b 1)), some (.ref (b 3)), some (.ref (b 4)), some (.int (zI 0)), none, none, none, none, none]) dL_isContracted_1 (by decide) rfl ?_
  refine V_iconst dL_isContracted_3 ?_
  refine V_istore (L' := [some (.ref (c 0)), some (.ref (b 0)), some (.ref (b 1)), some (.ref (b 3)), some (.ref (b 4)), some (.int (zI 0)), some (.int (zI 0)), none, none, none, none]) dL_isContracted_4 (by decide) rfl ?_
  refine seg_6 0 0 τ ?_ ?_ ?_ ?_ ?_
  · omega
  · exact ms_rf hM
  · exact fr.rf _ _
  · exact hL
  · exact (smv_0 _).symm

/-! the law: the values of both programs -/
theorem IsFw.b {P : St} {bw cw t w : Int} (h : IsFw P bw cw t w) (ht : 0 ≤ t) : -1 ≤ w ∧ w ≤ t := by
  rcases h with ⟨e, -⟩ | ⟨a, b, -⟩ <;> omega
theorem vof_b (P : St) (bw cw k : Int) : 0 ≤ vof P bw cw k ∧ vof P bw cw k ≤ 9972 := v_b _
theorem cof_b (P : St) (bw cw k : Int) : 0 ≤ cof P bw cw k ∧ cof P bw cw k ≤ 9972 := v_b _
theorem LyP.bt {P : St} {bw cw s q n l m : Int} (h : LyP P bw cw s q n l m) (hl : 0 ≤ l) : Jvm.Pilot.@@N@@.bt P bw cw l < n := by
  rcases h with ⟨e, -⟩ | ⟨p0, -, -, -, -, g, -⟩
  · omega
  · exact g
theorem bt_pre {P : St} {bw cw c t j : Int} (h : 0 ≤ c ∧ c < al P ∧ bt P bw cw c = t) (a : 0 ≤ j) (b : j < al P) (e : j ≠ c) (hj : bt P bw cw j < t + 1) : bt P bw cw j < t := by
  have h2 : bt P bw cw j ≠ t := fun z => e (rk_inj (T := tm P bw cw) (n := al P) a b h.1 h.2.1 (z.trans h.2.2.symm))
  omega
theorem kvt_ly {P : St} (hM : MI P) {bw cw s q : Int} (hs : 0 ≤ s ∧ s < P 0 2) : ∀ t, 0 ≤ t → t ≤ al P → ∀ l, LyP P bw cw s q t l (pt P) → kvt P bw cw t s q = if l < 0 then 0 else cof P bw cw l := by
  refine int_ind ?_ (fun k hk ih => ?_)
  · intro _ l h
    rw [kvt_0]
    rcases h with ⟨e, -⟩ | ⟨p0, a, b, e, -, g, -⟩
    · rw [if_pos (by omega)]
    · have hc := comp_eq hM hs.1 hs.2 a b
      have := bt_b (P := P) (bw := bw) (cw := cw) hc.1.1 hc.1.2
      rw [e] at g
      omega
  · intro hkn l h
    rw [kvt_s _ _ _ hk]
    have hac := ac_spec (P := P) (bw := bw) (cw := cw) hk (show k < al P by omega)
    have hcs := cell_st hM hac.1 hac.2.1
    have hco := cell_of hM hac.1 hac.2.1
    show (if s = ac P bw cw k / pt P ∧ q = plc P (ac P bw cw k / pt P) (ac P bw cw k % pt P) then _ else _) = _
    by_cases e : s = ac P bw cw k / pt P ∧ q = plc P (ac P bw cw k / pt P) (ac P bw cw k % pt P)
    · rw [if_pos e, ← cof_at hk (by omega)]
      have hl : l = ac P bw cw k := by
        rcases h with ⟨-, g⟩ | ⟨p0, a, b, e1, g1, g2, g3⟩
        · refine absurd ?_ (g (ac P bw cw k % pt P) hcs.2.2.1 hcs.2.2.2.1 (by rw [e.2, ← e.1]))
          rw [e.1, hco]; omega
        · have g4 := g3 (ac P bw cw k % pt P) hcs.2.2.1 hcs.2.2.2.1 (by rw [e.2, ← e.1]) (by rw [e.1, hco]; omega)
          rw [e.1, hco] at g4
          have hc := comp_eq hM hs.1 hs.2 a b
          rw [← e1] at hc
          rw [← ac_bt (P := P) (bw := bw) (cw := cw) hc.1.1 hc.1.2, show bt P bw cw l = k by omega]
      rw [hl, if_neg (by omega)]
    · rw [if_neg e]
      refine ih (by omega) l ?_
      rcases h with ⟨e1, g⟩ | ⟨p0, a, b, e1, g1, g2, g3⟩
      · exact Or.inl ⟨e1, fun p a b c d => g p a b c (by omega)⟩
      · have hc := comp_eq hM hs.1 hs.2 a b
        rw [← e1] at hc
        have hne : bt P bw cw l ≠ k := by
          intro z
          refine e ?_
          rw [← z, ac_bt hc.1.1 hc.1.2, hc.2.1, hc.2.2.1]
          exact ⟨rfl, g1.symm⟩
        exact Or.inr ⟨p0, a, b, e1, g1, by omega, fun p a b c d => g3 p a b c (by omega)⟩
set_option maxRecDepth 100000 in
set_option maxHeartbeats 4000000 in
theorem q_areValues (en c b : Nat → Nat) (κ τ : St) (Y : vWd) (one : Int) (P : St) (hp : MI P ∧ LR P τ ∧ CWP P κ ∧ LT P τ ∧ (0 ≤ one ∧ one ≤ 60000)) : MC (EX en) yL_areValues tL_areValues [.ref (c 0), .ref (b 0), .ref (b 1), .ref (b 2), .ref (b 3), .int (zI one)] (lW b τ (Y ++ fm (cO en c κ))) (fun v w => ∃ (κ2 : St), v = some (.int (zI (bz true))) ∧ w = (lW b τ (Y ++ fm (cO en c κ2))) ∧ (CWP P κ2)) := by
  refine MC.of (EX.stb en) [some (.ref (c 0)), some (.ref (b 0)), some (.ref (b 1)), some (.ref (b 2)), some (.ref (b 3)), some (.int (zI one)), none, none, none, none, none, none, none, none, none, none, none, none, none, none] 14 rfl rfl rfl (by simp [Value.category]) (Nat.le_of_ble_eq_true rfl) (fun K hK hR => ?_)
  obtain ⟨hM, hL, hC, hp⟩ := hp
  have mR := hM.1
  have mC := hM.2.1
  have mN := hM.2.2.1
  have mp := hM.pts
  have ma := hM.als
  have mV := hM.2.2.2.1
  have mW := hM.2.2.2.2.1
  obtain ⟨hT, hone⟩ := hp
  have hsm := hL.small hM
  have loop_27 : ∀ (n0 : Nat) (step : Int) (wr : Int) (qv : Nat) (qw : Nat) (Vf : Int → Int) (Wf : Int → Int) (κ1 : St) (k1 : Nat) (n1 : Nat), (al P - step).toNat = n0 → (0 ≤ step ∧ step ≤ al P) → (∀ j, 0 ≤ j → j < al P → bt P (P 0 11) (P 0 12) j < step → Vf j = vof P (P 0 11) (P 0 12) j) → (∀ j, 0 ≤ j → j < al P → bt P (P 0 11) (P 0 12) j < step → Wf j = cof P (P 0 11) (P 0 12) j) → (IsFw P (P 0 11) (P 0 12) step wr) → (CWP P κ1) → (k1 ≤ 10 + 4 * step.toNat) → (n1 ≤ 200 + 24 * step.toNat) → V K tL_areValues k1 n1 (lW b τ ((qw, iE 0 64 Wf) :: ((qv, iE 0 64 Vf) :: (Y ++ fm (cO en c κ1))))) [some (.ref (c 0)), some (.ref (b 0)), some (.ref (b 1)), some (.ref (b 2)), some (.ref (b 3)), some (.int (zI one)), some (.int (zI (pt P))), some (.ref qv), some (.ref qw), some (.int (zI wr)), some (.int (zI 1)), some (.int (zI step)), none, none, none, none, none, none, none, none] [] 27 := by
    intro n0
    induction n0 using Nat.strongRecOn with
    | _ n0 ih_27 =>
    intro step wr qv qw Vf Wf κ1 k1 n1 hm_27 hst hV hW hwr hC1 hk1 hn1
    have seg_46 : ∀ (cl : Int), (step < al P) → (cl = ac P (P 0 11) (P 0 12) step) → V K tL_areValues k1 n1 (lW b τ ((qw, iE 0 64 Wf) :: ((qv, iE 0 64 Vf) :: (Y ++ fm (cO en c κ1))))) [some (.ref (c 0)), some (.ref (b 0)), some (.ref (b 1)), some (.ref (b 2)), some (.ref (b 3)), some (.int (zI one)), some (.int (zI (pt P))), some (.ref qv), some (.ref qw), some (.int (zI wr)), some (.int (zI 1)), some (.int (zI step)), none, none, none, none, none, none, none, none] [.int (zI cl)] 46 := by
      intro cl hsn hcl
      have hac := ac_spec (P := P) (bw := P 0 11) (cw := P 0 12) hst.1 hsn
      rw [← hcl] at hac
      have hcs := cell_st hM hac.1 hac.2.1
      have hrc := place_rc hM hcs.2.2.1 hcs.2.2.2.1
      have ha := hL.at hcs.1 (show cl / pt P < 4 by omega)
      have h4 := rds_b hM hcs.1 (show cl / pt P < 4 by omega)
      have hwb := hwr.b hst.1
      have seg_302 : ∀ (wr2 : Int) (V3 : Int → Int) (W3 : Int → Int), (∀ j, 0 ≤ j → j < al P → bt P (P 0 11) (P 0 12) j < step + 1 → V3 j = vof P (P 0 11) (P 0 12) j) → (∀ j, 0 ≤ j → j < al P → bt P (P 0 11) (P 0 12) j < step + 1 → W3 j = cof P (P 0 11) (P 0 12) j) → (IsFw P (P 0 11) (P 0 12) (step + 1) wr2) → V K tL_areValues k1 n1 (lW b τ ((qw, iE 0 64 W3) :: ((qv, iE 0 64 V3) :: (Y ++ fm (cO en c κ1))))) [some (.ref (c 0)), some (.ref (b 0)), some (.ref (b 1)), some (.ref (b 2)), some (.ref (b 3)), some (.int (zI one)), some (.int (zI (pt P))), some (.ref qv), some (.ref qw), none, some (.int (zI 1)), some (.int (zI step)), some (.int (zI cl)), some (.int (zI (cl / pt P))), none, none, none, none, none, none] [.int (zI wr2)] 302 := by
        intro wr2 V3 W3 hV3 hW3 hwr2
        refine V_istore (L' := [some (.ref (c 0)), some (.ref (b 0)), some (.ref (b 1)), some (.ref (b 2)), some (.ref (b 3)), some (.int (zI one)), some (.int (zI (pt P))), some (.ref qv), some (.ref qw), some (.int (zI wr2)), some (.int (zI 1)), some (.int (zI step)), some (.int (zI cl)), some (.int (zI (cl / pt P))), none, none, none, none, none, none]) dL_areValues_302 (by decide) rfl ?_
        refine V_iload dL_areValues_304 rfl ?_
        refine V_if_eq (tgt := 388) dL_areValues_306 (by decide) ⟨by decide, by decide⟩ (fun h => absurd h (by decide)) (fun _ => ?_)
        have hcc := cc_cell hM hac.1 hac.2.1
        have hvb := vof_b P (P 0 11) (P 0 12) cl
        have hcb := cof_b P (P 0 11) (P 0 12) cl
        refine V_iload dL_areValues_309 rfl ?_
        refine V_iconst dL_areValues_311 ?_
        refine V_iremN dL_areValues_312 ⟨⟨by omega, by omega⟩, ⟨by omega, by omega⟩, by omega, by omega⟩ ?_
        refine V_iload dL_areValues_313 rfl ?_
        refine V_iconst dL_areValues_315 ?_
        refine V_iremN dL_areValues_316 ⟨⟨by omega, by omega⟩, ⟨by omega, by omega⟩, by omega, by omega⟩ ?_
        refine V_icmp_ne (tgt := 384) dL_areValues_317 (by decide) ⟨⟨by omega, by omega⟩, ⟨by omega, by omega⟩⟩ (fun c_2 => ?_) (fun c_2 => ?_)
        · refine V_iconst dL_areValues_384 ?_
          refine V_goto (tgt := 389) dL_areValues_385 (by decide) ?_
          refine V_istore (L' := [some (.ref (c 0)), some (.ref (b 0)), some (.ref (b 1)), some (.ref (b 2)), some (.ref (b 3)), some (.int (zI one)), some (.int (zI (pt P))), some (.ref qv), some (.ref qw), some (.int (zI wr2)), some (.int (zI 1)), some (.int (zI step)), some (.int (zI cl)), some (.int (zI (cl / pt P))), none, none, none, none, none, none]) dL_areValues_389 (by decide) rfl ?_
          refine V_iinc (L' := [some (.ref (c 0)), some (.ref (b 0)), some (.ref (b 1)), some (.ref (b 2)), some (.ref (b 3)), some (.int (zI one)), some (.int (zI (pt P))), some (.ref qv), some (.ref qw), some (.int (zI wr2)), some (.int (zI 1)), some (.int (zI (step + 1))), some (.int (zI cl)), some (.int (zI (cl / pt P))), none, none, none, none, none, none]) dL_areValues_391 (by decide) rfl rfl ?_
          refine V_goto (tgt := 27) dL_areValues_394 (by decide) ?_
          refine V_mask (L' := [some (.ref (c 0)), some (.ref (b 0)), some (.ref (b 1)), some (.ref (b 2)), some (.ref (b 3)), some (.int (zI one)), some (.int (zI (pt P))), some (.ref qv), some (.ref qw), some (.int (zI wr2)), some (.int (zI 1)), some (.int (zI (step + 1))), none, none, none, none, none, none, none, none]) [true, true, true, true, true, true, true, true, true, true, true, true, false, false, false, false, false, false, false, false] rfl ?_
          refine ih_27 _ (by omega) (step + 1) wr2 qv qw V3 W3 κ1 k1 n1 rfl ?_ ?_ ?_ ?_ ?_ ?_ ?_
          · omega
          · exact hV3
          · exact hW3
          · exact hwr2
          · exact hC1
          · omega
          · omega
        · refine V_aload_n dL_areValues_320 rfl ?_
          refine V_iload dL_areValues_321 rfl ?_
          refine V_iload dL_areValues_323 rfl ?_
          refine V_iload dL_areValues_325 rfl ?_
          refine V_iremN dL_areValues_327 ⟨⟨by omega, by omega⟩, ⟨by omega, by omega⟩, by omega, by omega⟩ ?_
          refine V_aload_n dL_areValues_328 rfl ?_
          refine V_iconst dL_areValues_329 ?_
          refine ll_0 ⟨by omega, by omega⟩ dL_areValues_330 ?_
          refine V_eqT (y := zI (P 0 1)) (congrArg zI (LR.g1 hL)) ?_
          refine V_idiv dL_areValues_331 ⟨⟨by omega, by omega⟩, ⟨by omega, by omega⟩, by omega, by omega⟩ ?_
          refine V_iload dL_areValues_332 rfl ?_
          refine V_iload dL_areValues_334 rfl ?_
          refine V_iremN dL_areValues_336 ⟨⟨by omega, by omega⟩, ⟨by omega, by omega⟩, by omega, by omega⟩ ?_
          refine V_aload_n dL_areValues_337 rfl ?_
          refine V_iconst dL_areValues_338 ?_
          refine ll_0 ⟨by omega, by omega⟩ dL_areValues_339 ?_
          refine V_eqT (y := zI (P 0 1)) (congrArg zI (LR.g1 hL)) ?_
          refine V_iremN dL_areValues_340 ⟨⟨by omega, by omega⟩, ⟨by omega, by omega⟩, by omega, by omega⟩ ?_
          refine V_callVB (As := [.int (zI (cl / pt P)), .int (zI ((cl % (pt P)) / (P 0 1))), .int (zI ((cl % (pt P)) % (P 0 1)))]) (b := c 0) (ci := 9) (fs := cwF c κ1) (T := TX10) (N := 9) (lW_cw b τ ((qw, iE 0 64 W3) :: ((qv, iE 0 64 V3) :: Y)) en c κ1) rfl (wr := (lW b τ ((qw, iE 0 64 W3) :: ((qv, iE 0 64 V3) :: Y)))) (wc := fm (cO en c κ1)) rfl hK (MC.env EX.en (r_valueOf en c κ1 (cl / pt P) ((cl % (pt P)) / (P 0 1)) ((cl % (pt P)) % (P 0 1)) P ⟨hM, hC1, hcc.1⟩)) mokX10_valueOf w1005 w1006 w1007 ⟨Nat.le_of_ble_eq_true rfl, Nat.le_of_ble_eq_true rfl⟩ rfl (Nat.le_of_ble_eq_true rfl) ⟨(by show k1 + 0 + 2 ≤ 1000; omega), (by show n1 + 0 + 12 ≤ 10000; omega)⟩ dL_areValues_341 (fun v w p_3 => ?_)
          obtain ⟨κ_4, rfl, rfl, q_5⟩ := p_3
          show V K tL_areValues (k1 + 2) (n1 + 12) (lW b τ ((qw, iE 0 64 W3) :: ((qv, iE 0 64 V3) :: (Y ++ fm (cO en c κ_4))))) _ [.int (zI (vof P (P 0 11) (P 0 12) (cc P (cl / pt P) ((cl % (pt P)) / (P 0 1)) ((cl % (pt P)) % (P 0 1)))))] 344
          refine V_eqT (y := zI (vof P (P 0 11) (P 0 12) cl)) (by rw [hcc.2]) ?_
          refine V_aload dL_areValues_344 rfl ?_
          refine V_iload dL_areValues_346 rfl ?_
          refine V_iald (N := 64) (f := V3) 6 rfl ⟨by omega, by omega⟩ (by decide) dL_areValues_348 ?_
          refine V_eqT (y := zI (vof P (P 0 11) (P 0 12) cl)) (congrArg zI (hV3 cl hac.1 hac.2.1 (by omega))) ?_
          refine V_icmp_ne (tgt := 388) dL_areValues_349 (by decide) ⟨⟨by omega, by omega⟩, ⟨by omega, by omega⟩⟩ (fun c_6 => absurd (rfl) c_6) (fun _ => ?_)
          refine V_aload_n dL_areValues_352 rfl ?_
          refine V_iload dL_areValues_353 rfl ?_
          refine V_iload dL_areValues_355 rfl ?_
          refine V_iload dL_areValues_357 rfl ?_
          refine V_iremN dL_areValues_359 ⟨⟨by omega, by omega⟩, ⟨by omega, by omega⟩, by omega, by omega⟩ ?_
          refine V_aload_n dL_areValues_360 rfl ?_
          refine V_iconst dL_areValues_361 ?_
          refine ll_0 ⟨by omega, by omega⟩ dL_areValues_362 ?_
          refine V_eqT (y := zI (P 0 1)) (congrArg zI (LR.g1 hL)) ?_
          refine V_idiv dL_areValues_363 ⟨⟨by omega, by omega⟩, ⟨by omega, by omega⟩, by omega, by omega⟩ ?_
          refine V_iload dL_areValues_364 rfl ?_
          refine V_iload dL_areValues_366 rfl ?_
          refine V_iremN dL_areValues_368 ⟨⟨by omega, by omega⟩, ⟨by omega, by omega⟩, by omega, by omega⟩ ?_
          refine V_aload_n dL_areValues_369 rfl ?_
          refine V_iconst dL_areValues_370 ?_
          refine ll_0 ⟨by omega, by omega⟩ dL_areValues_371 ?_
          refine V_eqT (y := zI (P 0 1)) (congrArg zI (LR.g1 hL)) ?_
          refine V_iremN dL_areValues_372 ⟨⟨by omega, by omega⟩, ⟨by omega, by omega⟩, by omega, by omega⟩ ?_
          refine V_callVB (As := [.int (zI (cl / pt P)), .int (zI ((cl % (pt P)) / (P 0 1))), .int (zI ((cl % (pt P)) % (P 0 1)))]) (b := c 0) (ci := 9) (fs := cwF c κ_4) (T := TX10) (N := 9) (lW_cw b τ ((qw, iE 0 64 W3) :: ((qv, iE 0 64 V3) :: Y)) en c κ_4) rfl (wr := (lW b τ ((qw, iE 0 64 W3) :: ((qv, iE 0 64 V3) :: Y)))) (wc := fm (cO en c κ_4)) rfl hK (MC.env EX.en (r_contractedValueOf en c κ_4 (cl / pt P) ((cl % (pt P)) / (P 0 1)) ((cl % (pt P)) % (P 0 1)) P ⟨hM, q_5, hcc.1⟩)) mokX10_contractedValueOf w1013 w1014 w1015 ⟨Nat.le_of_ble_eq_true rfl, Nat.le_of_ble_eq_true rfl⟩ rfl (Nat.le_of_ble_eq_true rfl) ⟨(by show k1 + 2 + 2 ≤ 1000; omega), (by show n1 + 12 + 12 ≤ 10000; omega)⟩ dL_areValues_373 (fun v w p_7 => ?_)
          obtain ⟨κ_8, rfl, rfl, q_9⟩ := p_7
          show V K tL_areValues (k1 + 4) (n1 + 24) (lW b τ ((qw, iE 0 64 W3) :: ((qv, iE 0 64 V3) :: (Y ++ fm (cO en c κ_8))))) _ [.int (zI (cof P (P 0 11) (P 0 12) (cc P (cl / pt P) ((cl % (pt P)) / (P 0 1)) ((cl % (pt P)) % (P 0 1)))))] 376
          refine V_eqT (y := zI (cof P (P 0 11) (P 0 12) cl)) (by rw [hcc.2]) ?_
          refine V_aload dL_areValues_376 rfl ?_
          refine V_iload dL_areValues_378 rfl ?_
          refine V_iald (N := 64) (f := W3) 5 rfl ⟨by omega, by omega⟩ (by decide) dL_areValues_380 ?_
          refine V_eqT (y := zI (cof P (P 0 11) (P 0 12) cl)) (congrArg zI (hW3 cl hac.1 hac.2.1 (by omega))) ?_
          refine V_icmp_ne (tgt := 388) dL_areValues_381 (by decide) ⟨⟨by omega, by omega⟩, ⟨by omega, by omega⟩⟩ (fun c_10 => absurd (rfl) c_10) (fun _ => ?_)
          refine V_iconst dL_areValues_384 ?_
          refine V_goto (tgt := 389) dL_areValues_385 (by decide) ?_
          refine V_istore (L' := [some (.ref (c 0)), some (.ref (b 0)), some (.ref (b 1)), some (.ref (b 2)), some (.ref (b 3)), some (.int (zI one)), some (.int (zI (pt P))), some (.ref qv), some (.ref qw), some (.int (zI wr2)), some (.int (zI 1)), some (.int (zI step)), some (.int (zI cl)), some (.int (zI (cl / pt P))), none, none, none, none, none, none]) dL_areValues_389 (by decide) rfl ?_
          refine V_iinc (L' := [some (.ref (c 0)), some (.ref (b 0)), some (.ref (b 1)), some (.ref (b 2)), some (.ref (b 3)), some (.int (zI one)), some (.int (zI (pt P))), some (.ref qv), some (.ref qw), some (.int (zI wr2)), some (.int (zI 1)), some (.int (zI (step + 1))), some (.int (zI cl)), some (.int (zI (cl / pt P))), none, none, none, none, none, none]) dL_areValues_391 (by decide) rfl rfl ?_
          refine V_goto (tgt := 27) dL_areValues_394 (by decide) ?_
          refine V_mask (L' := [some (.ref (c 0)), some (.ref (b 0)), some (.ref (b 1)), some (.ref (b 2)), some (.ref (b 3)), some (.int (zI one)), some (.int (zI (pt P))), some (.ref qv), some (.ref qw), some (.int (zI wr2)), some (.int (zI 1)), some (.int (zI (step + 1))), none, none, none, none, none, none, none, none]) [true, true, true, true, true, true, true, true, true, true, true, true, false, false, false, false, false, false, false, false] rfl ?_
          refine ih_27 _ (by omega) (step + 1) wr2 qv qw V3 W3 κ_8 (k1 + 4) (n1 + 24) rfl ?_ ?_ ?_ ?_ ?_ ?_ ?_
          · omega
          · exact hV3
          · exact hW3
          · exact hwr2
          · exact q_9
          · omega
          · omega
      have loop_76 : ∀ (n0 : Nat) (k : Int) (V2 : Int → Int) (W2 : Int → Int), (P 4 (cl / pt P) - k).toNat = n0 → (0 ≤ k ∧ k ≤ P 4 (cl / pt P)) → (V2 cl = psm P (pvt P (P 0 11) (P 0 12) step) cl k) → (∀ j, j ≠ cl → V2 j = Vf j) → (W2 cl = csm P (kvt P (P 0 11) (P 0 12) step) cl k) → (∀ j, j ≠ cl → W2 j = Wf j) → V K tL_areValues k1 n1 (lW b τ ((qw, iE 0 64 W2) :: ((qv, iE 0 64 V2) :: (Y ++ fm (cO en c κ1))))) [some (.ref (c 0)), some (.ref (b 0)), some (.ref (b 1)), some (.ref (b 2)), some (.ref (b 3)), some (.int (zI one)), some (.int (zI (pt P))), some (.ref qv), some (.ref qw), some (.int (zI wr)), some (.int (zI 1)), some (.int (zI step)), some (.int (zI cl)), some (.int (zI (cl / pt P))), some (.int (zI k)), none, none, none, none, none] [] 76 := by
        intro n0
        induction n0 using Nat.strongRecOn with
        | _ n0 ih_76 =>
        intro k V2 W2 hm_76 hk hV2 hVo hW2 hWo
        have seg_184 : ∀ (pl : Int), (k < P 4 (cl / pt P)) → (pl = tkn P (pvt P (P 0 11) (P 0 12) step) (cl % pt P) (4 * (cl / pt P) + k)) → V K tL_areValues k1 n1 (lW b τ ((qw, iE 0 64 W2) :: ((qv, iE 0 64 V2) :: (Y ++ fm (cO en c κ1))))) [some (.ref (c 0)), some (.ref (b 0)), some (.ref (b 1)), some (.ref (b 2)), some (.ref (b 3)), some (.int (zI one)), some (.int (zI (pt P))), some (.ref qv), some (.ref qw), some (.int (zI wr)), some (.int (zI 1)), some (.int (zI step)), some (.int (zI cl)), some (.int (zI (cl / pt P))), some (.int (zI k)), some (.int (zI (rde P (4 * (cl / pt P) + k)))), some (.int (zI (wnt P cl (4 * (cl / pt P) + k)))), some (.int (zI (bdv P (cl % pt P) (4 * (cl / pt P) + k)))), none, none] [.int (zI pl)] 184 := by
          intro pl hkn hpl
          have hB : RB P (4 * (cl / pt P) + k) := rd_b hM hcs.1 (by omega) hk.1 hkn
          have hd := rde_dec hM hB
          have hwk := wnt_k hM hac.1 hac.2.1 hB
          have hlo := wnt_lo hM hac.1 hac.2.1 hB
          have seg_209 : ∀ (kp : Int), (kp = tkc P (kvt P (P 0 11) (P 0 12) step) (cl % pt P) (4 * (cl / pt P) + k)) → V K tL_areValues k1 n1 (lW b τ ((qw, iE 0 64 W2) :: ((qv, iE 0 64 V2) :: (Y ++ fm (cO en c κ1))))) [some (.ref (c 0)), some (.ref (b 0)), some (.ref (b 1)), some (.ref (b 2)), some (.ref (b 3)), some (.int (zI one)), some (.int (zI (pt P))), some (.ref qv), some (.ref qw), some (.int (zI wr)), some (.int (zI 1)), some (.int (zI step)), some (.int (zI cl)), some (.int (zI (cl / pt P))), some (.int (zI k)), some (.int (zI (rde P (4 * (cl / pt P) + k)))), none, none, some (.int (zI pl)), none] [.int (zI kp)] 209 := by
            intro kp hkp
            refine V_istore (L' := [some (.ref (c 0)), some (.ref (b 0)), some (.ref (b 1)), some (.ref (b 2)), some (.ref (b 3)), some (.int (zI one)), some (.int (zI (pt P))), some (.ref qv), some (.ref qw), some (.int (zI wr)), some (.int (zI 1)), some (.int (zI step)), some (.int (zI cl)), some (.int (zI (cl / pt P))), some (.int (zI k)), some (.int (zI (rde P (4 * (cl / pt P) + k)))), none, none, some (.int (zI pl)), some (.int (zI kp))]) dL_areValues_209 (by decide) rfl ?_
            refine V_aload dL_areValues_211 rfl ?_
            refine V_iload dL_areValues_213 rfl ?_
            refine V_dup2 dL_areValues_215 rfl rfl ?_
            refine V_iald (N := 64) (f := V2) 6 rfl ⟨by omega, by omega⟩ (by decide) dL_areValues_216 ?_
            refine V_eqT (y := zI (psm P (pvt P (P 0 11) (P 0 12) step) cl k)) (congrArg zI hV2) ?_
            refine V_iload dL_areValues_217 rfl ?_
            refine V_bipush dL_areValues_219 (by decide) ?_
            refine V_idiv dL_areValues_221 ⟨⟨by omega, by omega⟩, ⟨by omega, by omega⟩, by omega, by omega⟩ ?_
            refine V_bipush dL_areValues_222 (by decide) ?_
            refine V_iremN dL_areValues_224 ⟨⟨by omega, by omega⟩, ⟨by omega, by omega⟩, by omega, by omega⟩ ?_
            refine V_eqT (y := zI (P 6 (4 * (cl / pt P) + k))) (by rw [hd.2.2.1]) ?_
            refine V_iload dL_areValues_225 rfl ?_
            refine V_imul dL_areValues_227 ?_
            refine V_iadd dL_areValues_228 ?_
            refine V_iast (N := 64) (f := V2) 6 rfl ⟨by omega, by omega⟩ (by decide) dL_areValues_229 ?_
            show V K tL_areValues k1 n1 (lW b τ ((qw, iE 0 64 W2) :: ((qv, iE 0 64 (fup V2 cl ((psm P (pvt P (P 0 11) (P 0 12) step) cl k) + ((P 6 (4 * (cl / pt P) + k)) * pl)))) :: (Y ++ fm (cO en c κ1))))) _ [] 230
            refine V_aload dL_areValues_230 rfl ?_
            refine V_iload dL_areValues_232 rfl ?_
            refine V_dup2 dL_areValues_234 rfl rfl ?_
            refine V_iald (N := 64) (f := W2) 5 rfl ⟨by omega, by omega⟩ (by decide) dL_areValues_235 ?_
            refine V_eqT (y := zI (csm P (kvt P (P 0 11) (P 0 12) step) cl k)) (congrArg zI hW2) ?_
            refine V_iload dL_areValues_236 rfl ?_
            refine V_bipush dL_areValues_238 (by decide) ?_
            refine V_idiv dL_areValues_240 ⟨⟨by omega, by omega⟩, ⟨by omega, by omega⟩, by omega, by omega⟩ ?_
            refine V_bipush dL_areValues_241 (by decide) ?_
            refine V_iremN dL_areValues_243 ⟨⟨by omega, by omega⟩, ⟨by omega, by omega⟩, by omega, by omega⟩ ?_
            refine V_eqT (y := zI (P 6 (4 * (cl / pt P) + k))) (by rw [hd.2.2.1]) ?_
            refine V_iload dL_areValues_244 rfl ?_
            refine V_imul dL_areValues_246 ?_
            refine V_iadd dL_areValues_247 ?_
            refine V_iast (N := 64) (f := W2) 5 rfl ⟨by omega, by omega⟩ (by decide) dL_areValues_248 ?_
            show V K tL_areValues k1 n1 (lW b τ ((qw, iE 0 64 (fup W2 cl ((csm P (kvt P (P 0 11) (P 0 12) step) cl k) + ((P 6 (4 * (cl / pt P) + k)) * kp)))) :: ((qv, iE 0 64 (fup V2 cl ((psm P (pvt P (P 0 11) (P 0 12) step) cl k) + ((P 6 (4 * (cl / pt P) + k)) * pl)))) :: (Y ++ fm (cO en c κ1))))) _ [] 249
            refine V_iinc (L' := [some (.ref (c 0)), some (.ref (b 0)), some (.ref (b 1)), some (.ref (b 2)), some (.ref (b 3)), some (.int (zI one)), some (.int (zI (pt P))), some (.ref qv), some (.ref qw), some (.int (zI wr)), some (.int (zI 1)), some (.int (zI step)), some (.int (zI cl)), some (.int (zI (cl / pt P))), some (.int (zI (k + 1))), some (.int (zI (rde P (4 * (cl / pt P) + k)))), none, none, some (.int (zI pl)), some (.int (zI kp))]) dL_areValues_249 (by decide) rfl rfl ?_
            refine V_goto (tgt := 76) dL_areValues_252 (by decide) ?_
            refine V_mask (L' := [some (.ref (c 0)), some (.ref (b 0)), some (.ref (b 1)), some (.ref (b 2)), some (.ref (b 3)), some (.int (zI one)), some (.int (zI (pt P))), some (.ref qv), some (.ref qw), some (.int (zI wr)), some (.int (zI 1)), some (.int (zI step)), some (.int (zI cl)), some (.int (zI (cl / pt P))), some (.int (zI (k + 1))), none, none, none, none, none]) [true, true, true, true, true, true, true, true, true, true, true, true, true, true, true, false, false, false, false, false] rfl ?_
            refine ih_76 _ (by omega) (k + 1) (fup V2 cl ((psm P (pvt P (P 0 11) (P 0 12) step) cl k) + ((P 6 (4 * (cl / pt P) + k)) * pl))) (fup W2 cl ((csm P (kvt P (P 0 11) (P 0 12) step) cl k) + ((P 6 (4 * (cl / pt P) + k)) * kp))) rfl ?_ ?_ ?_ ?_ ?_
            · omega
            · rw [fup_eq, psm_s _ _ _ hk.1, hpl]
            · intro j a
              rw [fup_ne a]; exact hVo j a
            · rw [fup_eq, csm_s _ _ _ hk.1, hkp]
            · intro j a
              rw [fup_ne a]; exact hWo j a
          refine V_istore (L' := [some (.ref (c 0)), some (.ref (b 0)), some (.ref (b 1)), some (.ref (b 2)), some (.ref (b 3)), some (.int (zI one)), some (.int (zI (pt P))), some (.ref qv), some (.ref qw), some (.int (zI wr)), some (.int (zI 1)), some (.int (zI step)), some (.int (zI cl)), some (.int (zI (cl / pt P))), some (.int (zI k)), some (.int (zI (rde P (4 * (cl / pt P) + k)))), some (.int (zI (wnt P cl (4 * (cl / pt P) + k)))), some (.int (zI (bdv P (cl % pt P) (4 * (cl / pt P) + k)))), some (.int (zI pl)), none]) dL_areValues_184 (by decide) rfl ?_
          refine V_iload dL_areValues_186 rfl ?_
          refine V_if_ge (tgt := 196) dL_areValues_188 (by decide) ⟨by omega, by omega⟩ (fun c_11 => ?_) (fun c_11 => ?_)
          · refine V_aload_n dL_areValues_196 rfl ?_
            refine V_aload_n dL_areValues_197 rfl ?_
            refine V_aload dL_areValues_198 rfl ?_
            refine V_aload dL_areValues_200 rfl ?_
            refine V_iload dL_areValues_202 rfl ?_
            refine V_iload dL_areValues_204 rfl ?_
            refine V_callSF (As := [.ref (b 0), .ref (b 1), .ref (b 3), .ref qw, .int (zI (wnt P cl (4 * (cl / pt P) + k))), .int (zI step)]) hK (q_lies (EX.stb en) b τ ((qv, iE 0 64 V2) :: (Y ++ fm (cO en c κ1))) (wnt P cl (4 * (cl / pt P) + k)) step qw W2 P ⟨hM, hL, hT, ⟨by omega, hlo.2⟩, hst⟩) mokL_lies w1002 w1003 ⟨Nat.le_of_ble_eq_true rfl, Nat.le_of_ble_eq_true rfl⟩ rfl (Nat.le_of_ble_eq_true rfl) ⟨(by show k1 + 0 + 0 ≤ 1000; omega), (by show n1 + 0 + 0 ≤ 10000; omega)⟩ dL_areValues_206 (fun v w p_12 => ?_)
            obtain ⟨l_13, rfl, rfl, q_14, q_15⟩ := p_12
            show V K tL_areValues k1 n1 (lW b τ ((qw, iE 0 64 W2) :: ((qv, iE 0 64 V2) :: (Y ++ fm (cO en c κ1))))) _ [.int (zI (if l_13 < 0 then 0 else W2 l_13))] 209
            refine V_mask (L' := [some (.ref (c 0)), some (.ref (b 0)), some (.ref (b 1)), some (.ref (b 2)), some (.ref (b 3)), some (.int (zI one)), some (.int (zI (pt P))), some (.ref qv), some (.ref qw), some (.int (zI wr)), some (.int (zI 1)), some (.int (zI step)), some (.int (zI cl)), some (.int (zI (cl / pt P))), some (.int (zI k)), some (.int (zI (rde P (4 * (cl / pt P) + k)))), none, none, some (.int (zI pl)), none]) [true, true, true, true, true, true, true, true, true, true, true, true, true, true, true, true, false, false, true, false] rfl ?_
            refine seg_209 (if l_13 < 0 then 0 else W2 l_13) ?_
            · have h1 := hwk.2 c_11
              have h2 := rdc_b hM hB h1.1
              rw [tkc_in h1.1, kvt_ly hM hB.1 step hst.1 hst.2 l_13 (by have h3 := q_14; rw [h1.2.2, h2.2.1, h2.2.2] at h3; exact h3)]
              by_cases z : l_13 < 0
              · rw [if_pos z, if_pos z]
              · rw [if_neg z, if_neg z]
                have h5 := LyP.bt q_14 (by omega)
                rw [hWo l_13 (fun q => by rw [q, hac.2.2] at h5; omega)]
                exact hW _ (by omega) q_15.2 h5
          · refine V_iload dL_areValues_191 rfl ?_
            refine V_goto (tgt := 209) dL_areValues_193 (by decide) ?_
            refine V_mask (L' := [some (.ref (c 0)), some (.ref (b 0)), some (.ref (b 1)), some (.ref (b 2)), some (.ref (b 3)), some (.int (zI one)), some (.int (zI (pt P))), some (.ref qv), some (.ref qw), some (.int (zI wr)), some (.int (zI 1)), some (.int (zI step)), some (.int (zI cl)), some (.int (zI (cl / pt P))), some (.int (zI k)), some (.int (zI (rde P (4 * (cl / pt P) + k)))), none, none, some (.int (zI pl)), none]) [true, true, true, true, true, true, true, true, true, true, true, true, true, true, true, true, false, false, true, false] rfl ?_
            refine seg_209 (bdv P (cl % pt P) (4 * (cl / pt P) + k)) ?_
            · exact (tkc_out (hwk.1 c_11)).symm
        refine V_iload dL_areValues_76 rfl ?_
        refine V_aload_n dL_areValues_78 rfl ?_
        refine V_iconst dL_areValues_79 ?_
        refine V_iload dL_areValues_80 rfl ?_
        refine V_iadd dL_areValues_82 ?_
        refine ll_1 ⟨by omega, by omega⟩ dL_areValues_83 ?_
        refine V_eqT (y := zI (P 4 (cl / pt P))) (congrArg zI ha.2.1) ?_
        refine V_icmp_ge (tgt := 255) dL_areValues_84 (by decide) ⟨⟨by omega, by omega⟩, ⟨by omega, by omega⟩⟩ (fun c_16 => ?_) (fun c_16 => ?_)
        · have hpb := psm_b hM (pvt_b P (P 0 11) (P 0 12) step hst.1) hac.1 hac.2.1 h4.1 (Int.le_refl _)
          have hqb := csm_b hM (kvt_b P (P 0 11) (P 0 12) step hst.1) hac.1 hac.2.1 h4.1 (Int.le_refl _)
          have hvb := vof_b P (P 0 11) (P 0 12) cl
          have hcb := cof_b P (P 0 11) (P 0 12) cl
          refine V_aload dL_areValues_255 rfl ?_
          refine V_iload dL_areValues_257 rfl ?_
          refine V_dup2 dL_areValues_259 rfl rfl ?_
          refine V_iald (N := 64) (f := V2) 6 rfl ⟨by omega, by omega⟩ (by decide) dL_areValues_260 ?_
          refine V_eqT (y := zI (psm P (pvt P (P 0 11) (P 0 12) step) cl (P 4 (cl / pt P)))) (by rw [hV2, show k = P 4 (cl / pt P) by omega]) ?_
          refine V_sipush dL_areValues_261 (by decide) ?_
          refine V_iremN dL_areValues_264 ⟨⟨by omega, by omega⟩, ⟨by omega, by omega⟩, by omega, by omega⟩ ?_
          refine V_eqT (y := zI (vof P (P 0 11) (P 0 12) cl)) (by unfold vof pvl; rw [hac.2.2]) ?_
          refine V_iast (N := 64) (f := V2) 6 rfl ⟨by omega, by omega⟩ (by decide) dL_areValues_265 ?_
          show V K tL_areValues k1 n1 (lW b τ ((qw, iE 0 64 W2) :: ((qv, iE 0 64 (fup V2 cl (vof P (P 0 11) (P 0 12) cl))) :: (Y ++ fm (cO en c κ1))))) _ [] 266
          refine V_aload dL_areValues_266 rfl ?_
          refine V_iload dL_areValues_268 rfl ?_
          refine V_dup2 dL_areValues_270 rfl rfl ?_
          refine V_iald (N := 64) (f := W2) 5 rfl ⟨by omega, by omega⟩ (by decide) dL_areValues_271 ?_
          refine V_eqT (y := zI (csm P (kvt P (P 0 11) (P 0 12) step) cl (P 4 (cl / pt P)))) (by rw [hW2, show k = P 4 (cl / pt P) by omega]) ?_
          refine V_sipush dL_areValues_272 (by decide) ?_
          refine V_iremN dL_areValues_275 ⟨⟨by omega, by omega⟩, ⟨by omega, by omega⟩, by omega, by omega⟩ ?_
          refine V_eqT (y := zI (cof P (P 0 11) (P 0 12) cl)) (by unfold cof cvl; rw [hac.2.2]) ?_
          refine V_iast (N := 64) (f := W2) 5 rfl ⟨by omega, by omega⟩ (by decide) dL_areValues_276 ?_
          show V K tL_areValues k1 n1 (lW b τ ((qw, iE 0 64 (fup W2 cl (cof P (P 0 11) (P 0 12) cl))) :: ((qv, iE 0 64 (fup V2 cl (vof P (P 0 11) (P 0 12) cl))) :: (Y ++ fm (cO en c κ1))))) _ [] 277
          refine V_iload dL_areValues_277 rfl ?_
          refine V_if_ge (tgt := 300) dL_areValues_279 (by decide) ⟨by omega, by omega⟩ (fun c_17 => ?_) (fun c_17 => ?_)
          · refine V_iload dL_areValues_300 rfl ?_
            refine V_mask (L' := [some (.ref (c 0)), some (.ref (b 0)), some (.ref (b 1)), some (.ref (b 2)), some (.ref (b 3)), some (.int (zI one)), some (.int (zI (pt P))), some (.ref qv), some (.ref qw), none, some (.int (zI 1)), some (.int (zI step)), some (.int (zI cl)), some (.int (zI (cl / pt P))), none, none, none, none, none, none]) [true, true, true, true, true, true, true, true, true, false, true, true, true, true, false, false, false, false, false, false] rfl ?_
            refine seg_302 wr (fup V2 cl (vof P (P 0 11) (P 0 12) cl)) (fup W2 cl (cof P (P 0 11) (P 0 12) cl)) ?_ ?_ ?_
            · intro j a b c2
              by_cases e : j = cl
              · rw [e, fup_eq]
              · rw [fup_ne e, hVo j e]
                refine hV j a b (bt_pre hac a b e ?_)
                exact c2
            · intro j a b c2
              by_cases e : j = cl
              · rw [e, fup_eq]
              · rw [fup_ne e, hWo j e]
                refine hW j a b (bt_pre hac a b e ?_)
                exact c2
            · exact hwr.same hst.1 (Or.inl c_17)
          · refine V_aload dL_areValues_282 rfl ?_
            refine V_iload dL_areValues_284 rfl ?_
            refine V_iald (N := 64) (f := fup V2 cl (vof P (P 0 11) (P 0 12) cl)) 6 rfl ⟨by omega, by omega⟩ (by decide) dL_areValues_286 ?_
            refine V_eqT (y := zI (vof P (P 0 11) (P 0 12) cl)) (by rw [fup_eq]) ?_
            refine V_aload dL_areValues_287 rfl ?_
            refine V_iload dL_areValues_289 rfl ?_
            refine V_iald (N := 64) (f := fup W2 cl (cof P (P 0 11) (P 0 12) cl)) 5 rfl ⟨by omega, by omega⟩ (by decide) dL_areValues_291 ?_
            refine V_eqT (y := zI (cof P (P 0 11) (P 0 12) cl)) (by rw [fup_eq]) ?_
            refine V_icmp_eq (tgt := 300) dL_areValues_292 (by decide) ⟨⟨by omega, by omega⟩, ⟨by omega, by omega⟩⟩ (fun c_18 => ?_) (fun c_18 => ?_)
            · refine V_iload dL_areValues_300 rfl ?_
              refine V_mask (L' := [some (.ref (c 0)), some (.ref (b 0)), some (.ref (b 1)), some (.ref (b 2)), some (.ref (b 3)), some (.int (zI one)), some (.int (zI (pt P))), some (.ref qv), some (.ref qw), none, some (.int (zI 1)), some (.int (zI step)), some (.int (zI cl)), some (.int (zI (cl / pt P))), none, none, none, none, none, none]) [true, true, true, true, true, true, true, true, true, false, true, true, true, true, false, false, false, false, false, false] rfl ?_
              refine seg_302 wr (fup V2 cl (vof P (P 0 11) (P 0 12) cl)) (fup W2 cl (cof P (P 0 11) (P 0 12) cl)) ?_ ?_ ?_
              · intro j a b c2
                by_cases e : j = cl
                · rw [e, fup_eq]
                · rw [fup_ne e, hVo j e]
                  refine hV j a b (bt_pre hac a b e ?_)
                  exact c2
              · intro j a b c2
                by_cases e : j = cl
                · rw [e, fup_eq]
                · rw [fup_ne e, hWo j e]
                  refine hW j a b (bt_pre hac a b e ?_)
                  exact c2
              · exact hwr.same hst.1 (Or.inr (by rw [← hcl]; exact c_18))
            · refine V_iload dL_areValues_295 rfl ?_
              refine V_goto (tgt := 302) dL_areValues_297 (by decide) ?_
              refine V_mask (L' := [some (.ref (c 0)), some (.ref (b 0)), some (.ref (b 1)), some (.ref (b 2)), some (.ref (b 3)), some (.int (zI one)), some (.int (zI (pt P))), some (.ref qv), some (.ref qw), none, some (.int (zI 1)), some (.int (zI step)), some (.int (zI cl)), some (.int (zI (cl / pt P))), none, none, none, none, none, none]) [true, true, true, true, true, true, true, true, true, false, true, true, true, true, false, false, false, false, false, false] rfl ?_
              refine seg_302 step (fup V2 cl (vof P (P 0 11) (P 0 12) cl)) (fup W2 cl (cof P (P 0 11) (P 0 12) cl)) ?_ ?_ ?_
              · intro j a b c2
                by_cases e : j = cl
                · rw [e, fup_eq]
                · rw [fup_ne e, hVo j e]
                  refine hV j a b (bt_pre hac a b e ?_)
                  exact c2
              · intro j a b c2
                by_cases e : j = cl
                · rw [e, fup_eq]
                · rw [fup_ne e, hWo j e]
                  refine hW j a b (bt_pre hac a b e ?_)
                  exact c2
              · exact hwr.new hst.1 c_17 (by rw [← hcl]; exact c_18)
        · have hB : RB P (4 * (cl / pt P) + k) := rd_b hM hcs.1 (by omega) hk.1 (by omega)
          have hd := rde_dec hM hB
          have hb7 := hB.2.2.1
          have hb8 := hB.2.2.2
          have hb5 := hB.1
          have hwi : wi P (cl % pt P) (4 * (cl / pt P) + k) = cl % pt P / P 0 1 - P 7 (4 * (cl / pt P) + k) := rfl
          have hwj : wj P (cl % pt P) (4 * (cl / pt P) + k) = cl % pt P % P 0 1 - P 8 (4 * (cl / pt P) + k) := rfl
          have hwk := wnt_k hM hac.1 hac.2.1 hB
          have hlo := wnt_lo hM hac.1 hac.2.1 hB
          refine V_aload_n dL_areValues_87 rfl ?_
          refine V_iconst dL_areValues_88 ?_
          refine V_iload dL_areValues_89 rfl ?_
          refine V_imul dL_areValues_91 ?_
          refine V_iload dL_areValues_92 rfl ?_
          refine V_iadd dL_areValues_94 ?_
          refine ll_2 ⟨by omega, by omega⟩ dL_areValues_95 ?_
          refine V_eqT (y := zI (rde P (4 * (cl / pt P) + k))) (congrArg zI (hL.rd hcs.1 (by omega) hk.1 (by omega))) ?_
          refine V_istore (L' := [some (.ref (c 0)), some (.ref (b 0)), some (.ref (b 1)), some (.ref (b 2)), some (.ref (b 3)), some (.int (zI one)), some (.int (zI (pt P))), some (.ref qv), some (.ref qw), some (.int (zI wr)), some (.int (zI 1)), some (.int (zI step)), some (.int (zI cl)), some (.int (zI (cl / pt P))), some (.int (zI k)), some (.int (zI (rde P (4 * (cl / pt P) + k)))), none, none, none, none]) dL_areValues_96 (by decide) rfl ?_
          refine V_aload_n dL_areValues_98 rfl ?_
          refine V_iload dL_areValues_99 rfl ?_
          refine V_iload dL_areValues_101 rfl ?_
          refine V_callSF (As := [.ref (b 0), .int (zI (rde P (4 * (cl / pt P) + k))), .int (zI cl)]) hK (q_wanted (EX.stb en) b τ ((qw, iE 0 64 W2) :: ((qv, iE 0 64 V2) :: (Y ++ fm (cO en c κ1)))) (rde P (4 * (cl / pt P) + k)) cl (4 * (cl / pt P) + k) P ⟨hM, hL, hB, rfl, hac.1, hac.2.1⟩) mokL_wanted w880 w881 ⟨Nat.le_of_ble_eq_true rfl, Nat.le_of_ble_eq_true rfl⟩ rfl (Nat.le_of_ble_eq_true rfl) ⟨(by show k1 + 0 + 0 ≤ 1000; omega), (by show n1 + 0 + 0 ≤ 10000; omega)⟩ dL_areValues_103 (fun v w p_19 => ?_)
          obtain ⟨rfl, rfl⟩ := p_19
          show V K tL_areValues k1 n1 (lW b τ ((qw, iE 0 64 W2) :: ((qv, iE 0 64 V2) :: (Y ++ fm (cO en c κ1))))) _ [.int (zI (wnt P cl (4 * (cl / pt P) + k)))] 106
          refine V_istore (L' := [some (.ref (c 0)), some (.ref (b 0)), some (.ref (b 1)), some (.ref (b 2)), some (.ref (b 3)), some (.int (zI one)), some (.int (zI (pt P))), some (.ref qv), some (.ref qw), some (.int (zI wr)), some (.int (zI 1)), some (.int (zI step)), some (.int (zI cl)), some (.int (zI (cl / pt P))), some (.int (zI k)), some (.int (zI (rde P (4 * (cl / pt P) + k)))), some (.int (zI (wnt P cl (4 * (cl / pt P) + k)))), none, none, none]) dL_areValues_106 (by decide) rfl ?_
          refine V_iload dL_areValues_108 rfl ?_
          refine V_iload dL_areValues_110 rfl ?_
          refine V_iremN dL_areValues_112 ⟨⟨by omega, by omega⟩, ⟨by omega, by omega⟩, by omega, by omega⟩ ?_
          refine V_aload_n dL_areValues_113 rfl ?_
          refine V_iconst dL_areValues_114 ?_
          refine ll_0 ⟨by omega, by omega⟩ dL_areValues_115 ?_
          refine V_eqT (y := zI (P 0 1)) (congrArg zI (LR.g1 hL)) ?_
          refine V_idiv dL_areValues_116 ⟨⟨by omega, by omega⟩, ⟨by omega, by omega⟩, by omega, by omega⟩ ?_
          refine V_iload dL_areValues_117 rfl ?_
          refine V_sipush dL_areValues_119 (by decide) ?_
          refine V_idiv dL_areValues_122 ⟨⟨by omega, by omega⟩, ⟨by omega, by omega⟩, by omega, by omega⟩ ?_
          refine V_bipush dL_areValues_123 (by decide) ?_
          refine V_iremN dL_areValues_125 ⟨⟨by omega, by omega⟩, ⟨by omega, by omega⟩, by omega, by omega⟩ ?_
          refine V_isub dL_areValues_126 ?_
          refine V_eqT (y := zI (wi P (cl % pt P) (4 * (cl / pt P) + k))) (by rw [hd.2.2.2.1]; rfl) ?_
          refine V_iload dL_areValues_127 rfl ?_
          refine V_iload dL_areValues_129 rfl ?_
          refine V_iremN dL_areValues_131 ⟨⟨by omega, by omega⟩, ⟨by omega, by omega⟩, by omega, by omega⟩ ?_
          refine V_aload_n dL_areValues_132 rfl ?_
          refine V_iconst dL_areValues_133 ?_
          refine ll_0 ⟨by omega, by omega⟩ dL_areValues_134 ?_
          refine V_eqT (y := zI (P 0 1)) (congrArg zI (LR.g1 hL)) ?_
          refine V_iremN dL_areValues_135 ⟨⟨by omega, by omega⟩, ⟨by omega, by omega⟩, by omega, by omega⟩ ?_
          refine V_iload dL_areValues_136 rfl ?_
          refine V_sipush dL_areValues_138 (by decide) ?_
          refine V_idiv dL_areValues_141 ⟨⟨by omega, by omega⟩, ⟨by omega, by omega⟩, by omega, by omega⟩ ?_
          refine V_iconst dL_areValues_142 ?_
          refine V_isub dL_areValues_143 ?_
          refine V_isub dL_areValues_144 ?_
          refine V_eqT (y := zI (wj P (cl % pt P) (4 * (cl / pt P) + k))) (by rw [hd.2.2.2.2]; rfl) ?_
          refine V_iload dL_areValues_145 rfl ?_
          refine V_bipush dL_areValues_147 (by decide) ?_
          refine V_iremN dL_areValues_149 ⟨⟨by omega, by omega⟩, ⟨by omega, by omega⟩, by omega, by omega⟩ ?_
          refine V_eqT (y := zI (P 5 (4 * (cl / pt P) + k))) (by rw [hd.2.1]) ?_
          refine V_callSF (As := [.int (zI (wi P (cl % pt P) (4 * (cl / pt P) + k))), .int (zI (wj P (cl % pt P) (4 * (cl / pt P) + k))), .int (zI (P 5 (4 * (cl / pt P) + k)))]) hK (q_border (EX.stb en) b τ ((qw, iE 0 64 W2) :: ((qv, iE 0 64 V2) :: (Y ++ fm (cO en c κ1)))) (wi P (cl % pt P) (4 * (cl / pt P) + k)) (wj P (cl % pt P) (4 * (cl / pt P) + k)) (P 5 (4 * (cl / pt P) + k)) ⟨⟨by omega, by omega⟩, ⟨by omega, by omega⟩, by omega, by omega⟩) mokL_border w999 w1000 ⟨Nat.le_of_ble_eq_true rfl, Nat.le_of_ble_eq_true rfl⟩ rfl (Nat.le_of_ble_eq_true rfl) ⟨(by show k1 + 0 + 0 ≤ 1000; omega), (by show n1 + 0 + 0 ≤ 10000; omega)⟩ dL_areValues_150 (fun v w p_20 => ?_)
          obtain ⟨rfl, rfl⟩ := p_20
          show V K tL_areValues k1 n1 (lW b τ ((qw, iE 0 64 W2) :: ((qv, iE 0 64 V2) :: (Y ++ fm (cO en c κ1))))) _ [.int (zI ((5 * (wi P (cl % pt P) (4 * (cl / pt P) + k)) + 7 * (wj P (cl % pt P) (4 * (cl / pt P) + k)) + (P 5 (4 * (cl / pt P) + k))) % 100))] 153
          refine V_eqT (y := zI (bdv P (cl % pt P) (4 * (cl / pt P) + k))) (rfl) ?_
          refine V_istore (L' := [some (.ref (c 0)), some (.ref (b 0)), some (.ref (b 1)), some (.ref (b 2)), some (.ref (b 3)), some (.int (zI one)), some (.int (zI (pt P))), some (.ref qv), some (.ref qw), some (.int (zI wr)), some (.int (zI 1)), some (.int (zI step)), some (.int (zI cl)), some (.int (zI (cl / pt P))), some (.int (zI k)), some (.int (zI (rde P (4 * (cl / pt P) + k)))), some (.int (zI (wnt P cl (4 * (cl / pt P) + k)))), some (.int (zI (bdv P (cl % pt P) (4 * (cl / pt P) + k)))), none, none]) dL_areValues_153 (by decide) rfl ?_
          refine V_iload dL_areValues_155 rfl ?_
          refine V_if_ge (tgt := 165) dL_areValues_157 (by decide) ⟨by omega, by omega⟩ (fun c_21 => ?_) (fun c_21 => ?_)
          · refine V_aload dL_areValues_165 rfl ?_
            refine V_iload dL_areValues_167 rfl ?_
            refine ll_3 ⟨by omega, by omega⟩ dL_areValues_169 ?_
            have kw := bt_b (P := P) (bw := P 0 11) (cw := P 0 12) (k := wnt P cl (4 * (cl / pt P) + k)) (by omega) hlo.2
            refine V_eqT (y := zI (bt P (P 0 11) (P 0 12) (wnt P cl (4 * (cl / pt P) + k)))) (congrArg zI (hT _ (by omega) hlo.2)) ?_
            refine V_iload dL_areValues_170 rfl ?_
            refine V_icmp_ge (tgt := 183) dL_areValues_172 (by decide) ⟨⟨by omega, by omega⟩, ⟨by omega, by omega⟩⟩ (fun c_22 => ?_) (fun c_22 => ?_)
            · refine V_iconst dL_areValues_183 ?_
              refine seg_184 0 ?_ ?_
              · omega
              · have h1 := hwk.2 c_21
                rw [tkn_in h1.1, ← h1.2.2, pvt_of h1.2.1.1 h1.2.1.2 _ hst.1 hst.2, if_neg (by omega)]
            · refine V_aload dL_areValues_175 rfl ?_
              refine V_iload dL_areValues_177 rfl ?_
              refine V_iald (N := 64) (f := V2) 6 rfl ⟨by omega, by omega⟩ (by decide) dL_areValues_179 ?_
              refine V_goto (tgt := 184) dL_areValues_180 (by decide) ?_
              refine seg_184 (V2 (wnt P cl (4 * (cl / pt P) + k))) ?_ ?_
              · omega
              · have h1 := hwk.2 c_21
                have h3 := c_22
                rw [tkn_in h1.1, ← h1.2.2, pvt_of h1.2.1.1 h1.2.1.2 _ hst.1 hst.2, if_pos c_22, hVo _ (fun q => by rw [q, hac.2.2] at h3; omega)]
                exact hV _ h1.2.1.1 h1.2.1.2 c_22
          · refine V_iload dL_areValues_160 rfl ?_
            refine V_goto (tgt := 184) dL_areValues_162 (by decide) ?_
            refine seg_184 (bdv P (cl % pt P) (4 * (cl / pt P) + k)) ?_ ?_
            · omega
            · exact (tkn_out (hwk.1 c_21)).symm
      have seg_76 : ∀ (k : Int) (V2 : Int → Int) (W2 : Int → Int), (0 ≤ k ∧ k ≤ P 4 (cl / pt P)) → (V2 cl = psm P (pvt P (P 0 11) (P 0 12) step) cl k) → (∀ j, j ≠ cl → V2 j = Vf j) → (W2 cl = csm P (kvt P (P 0 11) (P 0 12) step) cl k) → (∀ j, j ≠ cl → W2 j = Wf j) → V K tL_areValues k1 n1 (lW b τ ((qw, iE 0 64 W2) :: ((qv, iE 0 64 V2) :: (Y ++ fm (cO en c κ1))))) [some (.ref (c 0)), some (.ref (b 0)), some (.ref (b 1)), some (.ref (b 2)), some (.ref (b 3)), some (.int (zI one)), some (.int (zI (pt P))), some (.ref qv), some (.ref qw), some (.int (zI wr)), some (.int (zI 1)), some (.int (zI step)), some (.int (zI cl)), some (.int (zI (cl / pt P))), some (.int (zI k)), none, none, none, none, none] [] 76 := fun k V2 W2 hk hV2 hVo hW2 hWo => loop_76 _ k V2 W2 rfl hk hV2 hVo hW2 hWo
      refine V_istore (L' := [some (.ref (c 0)), some (.ref (b 0)), some (.ref (b 1)), some (.ref (b 2)), some (.ref (b 3)), some (.int (zI one)), some (.int (zI (pt P))), some (.ref qv), some (.ref qw), some (.int (zI wr)), some (.int (zI 1)), some (.int (zI step)), some (.int (zI cl)), none, none, none, none, none, none, none]) dL_areValues_46 (by decide) rfl ?_
      refine V_iload dL_areValues_48 rfl ?_
      refine V_iload dL_areValues_50 rfl ?_
      refine V_idiv dL_areValues_52 ⟨⟨by omega, by omega⟩, ⟨by omega, by omega⟩, by omega, by omega⟩ ?_
      refine V_istore (L' := [some (.ref (c 0)), some (.ref (b 0)), some (.ref (b 1)), some (.ref (b 2)), some (.ref (b 3)), some (.int (zI one)), some (.int (zI (pt P))), some (.ref qv), some (.ref qw), some (.int (zI wr)), some (.int (zI 1)), some (.int (zI step)), some (.int (zI cl)), some (.int (zI (cl / (pt P)))), none, none, none, none, none, none]) dL_areValues_53 (by decide) rfl ?_
      refine V_aload dL_areValues_55 rfl ?_
      refine V_iload dL_areValues_57 rfl ?_
      refine V_aload_n dL_areValues_59 rfl ?_
      refine V_iload dL_areValues_60 rfl ?_
      refine ll_1 ⟨by omega, by omega⟩ dL_areValues_62 ?_
      refine V_eqT (y := zI (P 3 (cl / pt P))) (congrArg zI ha.1) ?_
      refine V_iast (N := 64) (f := Vf) 6 rfl ⟨by omega, by omega⟩ (by decide) dL_areValues_63 ?_
      show V K tL_areValues k1 n1 (lW b τ ((qw, iE 0 64 Wf) :: ((qv, iE 0 64 (fup Vf cl (P 3 (cl / pt P)))) :: (Y ++ fm (cO en c κ1))))) _ [] 64
      refine V_aload dL_areValues_64 rfl ?_
      refine V_iload dL_areValues_66 rfl ?_
      refine V_aload_n dL_areValues_68 rfl ?_
      refine V_iload dL_areValues_69 rfl ?_
      refine ll_1 ⟨by omega, by omega⟩ dL_areValues_71 ?_
      refine V_eqT (y := zI (P 3 (cl / pt P))) (congrArg zI ha.1) ?_
      refine V_iast (N := 64) (f := Wf) 5 rfl ⟨by omega, by omega⟩ (by decide) dL_areValues_72 ?_
      show V K tL_areValues k1 n1 (lW b τ ((qw, iE 0 64 (fup Wf cl (P 3 (cl / pt P)))) :: ((qv, iE 0 64 (fup Vf cl (P 3 (cl / pt P)))) :: (Y ++ fm (cO en c κ1))))) _ [] 73
      refine V_iconst dL_areValues_73 ?_
      refine V_istore (L' := [some (.ref (c 0)), some (.ref (b 0)), some (.ref (b 1)), some (.ref (b 2)), some (.ref (b 3)), some (.int (zI one)), some (.int (zI (pt P))), some (.ref qv), some (.ref qw), some (.int (zI wr)), some (.int (zI 1)), some (.int (zI step)), some (.int (zI cl)), some (.int (zI (cl / (pt P)))), some (.int (zI 0)), none, none, none, none, none]) dL_areValues_74 (by decide) rfl ?_
      refine seg_76 0 (fup Vf cl (P 3 (cl / pt P))) (fup Wf cl (P 3 (cl / pt P))) ?_ ?_ ?_ ?_ ?_
      · exact ⟨by omega, h4.1⟩
      · rw [fup_eq, psm_0]
      · intro j a
        rw [fup_ne a]
      · rw [fup_eq, csm_0]
      · intro j a
        rw [fup_ne a]
    refine V_iload dL_areValues_27 rfl ?_
    refine V_aload_n dL_areValues_29 rfl ?_
    refine V_iconst dL_areValues_30 ?_
    refine ll_0 ⟨by omega, by omega⟩ dL_areValues_31 ?_
    refine V_eqT (y := zI (P 0 2)) (congrArg zI (LR.g2 hL)) ?_
    refine V_iload dL_areValues_32 rfl ?_
    refine V_imul dL_areValues_34 ?_
    refine V_eqT (y := zI (al P)) (rfl) ?_
    refine V_icmp_ge (tgt := 397) dL_areValues_35 (by decide) ⟨⟨by omega, by omega⟩, ⟨by omega, by omega⟩⟩ (fun c_23 => ?_) (fun c_23 => ?_)
    · refine V_iload dL_areValues_397 rfl ?_
      refine V_if_eq (tgt := 415) dL_areValues_399 (by decide) ⟨by decide, by decide⟩ (fun h => absurd h (by decide)) (fun _ => ?_)
      have hwb2 := hwr.b hst.1
      have hfw := fws_eq (P := P) (bw := P 0 11) (cw := P 0 12) (w := wr) (by rw [← show step = al P by omega]; exact hwr)
      have hfb : -1 ≤ fws P (P 0 11) (P 0 12) ∧ fws P (P 0 11) (P 0 12) < 1000 := by rw [← hfw]; omega
      refine V_aload_n dL_areValues_402 rfl ?_
      refine V_callVB (As := []) (b := c 0) (ci := 9) (fs := cwF c κ1) (T := TX10) (N := 9) (lW_cw b τ ((qw, iE 0 64 Wf) :: ((qv, iE 0 64 Vf) :: Y)) en c κ1) rfl (wr := (lW b τ ((qw, iE 0 64 Wf) :: ((qv, iE 0 64 Vf) :: Y)))) (wc := fm (cO en c κ1)) rfl hK (MC.env EX.en (r_firstWrongStep en c κ1 P ⟨hM, hC1⟩)) mokX10_firstWrongStep w470 w471 w472 ⟨Nat.le_of_ble_eq_true rfl, Nat.le_of_ble_eq_true rfl⟩ rfl (Nat.le_of_ble_eq_true rfl) ⟨(by show k1 + 0 + 0 ≤ 1000; omega), (by show n1 + 0 + 0 ≤ 10000; omega)⟩ dL_areValues_403 (fun v w p_25 => ?_)
      obtain ⟨κ_26, rfl, rfl, q_27⟩ := p_25
      show V K tL_areValues k1 n1 (lW b τ ((qw, iE 0 64 Wf) :: ((qv, iE 0 64 Vf) :: (Y ++ fm (cO en c κ_26))))) _ [.int (zI (fws P (P 0 11) (P 0 12)))] 406
      refine V_iload dL_areValues_406 rfl ?_
      refine V_icmp_ne (tgt := 415) dL_areValues_408 (by decide) ⟨⟨by omega, by omega⟩, ⟨by omega, by omega⟩⟩ (fun c_28 => absurd (hfw.symm) c_28) (fun _ => ?_)
      refine V_iconst dL_areValues_411 ?_
      refine V_goto (tgt := 416) dL_areValues_412 (by decide) ?_
      refine V_Sub (ws' := (lW b τ (Y ++ fm (cO en c κ_26)))) (by first | exact lW_drop0 | exact lW_drop1 | exact lW_drop2) ?_
      show V K tL_areValues k1 n1 _ _ [.int (zI (bz true))] 416
      refine V_zret hR rfl (by show k1 + 0 ≤ 1000; omega) (by show n1 + 0 ≤ 10000; omega) dL_areValues_416 ?_
      exact ⟨_, rfl, rfl, q_27⟩
    · refine V_aload_n dL_areValues_38 rfl ?_
      refine V_aload dL_areValues_39 rfl ?_
      refine V_iload dL_areValues_41 rfl ?_
      refine V_callSF (As := [.ref (b 0), .ref (b 3), .int (zI step)]) hK (q_cellAt (EX.stb en) b τ ((qw, iE 0 64 Wf) :: ((qv, iE 0 64 Vf) :: (Y ++ fm (cO en c κ1)))) step P ⟨hM, hL, hT, hst.1, by omega⟩) mokL_cellAt w996 w997 ⟨Nat.le_of_ble_eq_true rfl, Nat.le_of_ble_eq_true rfl⟩ rfl (Nat.le_of_ble_eq_true rfl) ⟨(by show k1 + 0 + 0 ≤ 1000; omega), (by show n1 + 0 + 0 ≤ 10000; omega)⟩ dL_areValues_43 (fun v w p_29 => ?_)
      obtain ⟨rfl, rfl⟩ := p_29
      show V K tL_areValues k1 n1 (lW b τ ((qw, iE 0 64 Wf) :: ((qv, iE 0 64 Vf) :: (Y ++ fm (cO en c κ1))))) _ [.int (zI (ac P (P 0 11) (P 0 12) step))] 46
      refine seg_46 (ac P (P 0 11) (P 0 12) step) ?_ ?_
      · omega
      · rfl
  have seg_27 : ∀ (step : Int) (wr : Int) (qv : Nat) (qw : Nat) (Vf : Int → Int) (Wf : Int → Int) (κ1 : St) (k1 : Nat) (n1 : Nat), (0 ≤ step ∧ step ≤ al P) → (∀ j, 0 ≤ j → j < al P → bt P (P 0 11) (P 0 12) j < step → Vf j = vof P (P 0 11) (P 0 12) j) → (∀ j, 0 ≤ j → j < al P → bt P (P 0 11) (P 0 12) j < step → Wf j = cof P (P 0 11) (P 0 12) j) → (IsFw P (P 0 11) (P 0 12) step wr) → (CWP P κ1) → (k1 ≤ 10 + 4 * step.toNat) → (n1 ≤ 200 + 24 * step.toNat) → V K tL_areValues k1 n1 (lW b τ ((qw, iE 0 64 Wf) :: ((qv, iE 0 64 Vf) :: (Y ++ fm (cO en c κ1))))) [some (.ref (c 0)), some (.ref (b 0)), some (.ref (b 1)), some (.ref (b 2)), some (.ref (b 3)), some (.int (zI one)), some (.int (zI (pt P))), some (.ref qv), some (.ref qw), some (.int (zI wr)), some (.int (zI 1)), some (.int (zI step)), none, none, none, none, none, none, none, none] [] 27 := fun step wr qv qw Vf Wf κ1 k1 n1 hst hV hW hwr hC1 hk1 hn1 => loop_27 _ step wr qv qw Vf Wf κ1 k1 n1 rfl hst hV hW hwr hC1 hk1 hn1
  refine V_aload_n dL_areValues_0 rfl ?_
  refine V_callSF (As := [.ref (b 0)]) hK (q_points (EX.stb en) b τ (Y ++ fm (cO en c κ)) P ⟨hM, hL⟩) mokL_points w871 w872 ⟨Nat.le_of_ble_eq_true rfl, Nat.le_of_ble_eq_true rfl⟩ rfl (Nat.le_of_ble_eq_true rfl) ⟨Nat.le_of_ble_eq_true rfl, Nat.le_of_ble_eq_true rfl⟩ dL_areValues_1 (fun v w p_30 => ?_)
  obtain ⟨rfl, rfl⟩ := p_30
  show V K tL_areValues 0 0 (lW b τ (Y ++ fm (cO en c κ))) _ [.int (zI (pt P))] 4
  refine V_istore (L' := [some (.ref (c 0)), some (.ref (b 0)), some (.ref (b 1)), some (.ref (b 2)), some (.ref (b 3)), some (.int (zI one)), some (.int (zI (pt P))), none, none, none, none, none, none, none, none, none, none, none, none, none]) dL_areValues_4 (by decide) rfl ?_
  refine V_bipush dL_areValues_6 (by decide) ?_
  refine V_newl (N := 64) w137 rfl (by decide) ⟨Nat.le_of_ble_eq_true rfl, Nat.le_of_ble_eq_true rfl⟩ dL_areValues_8 (fun qv => ?_)
  show V K tL_areValues 1 64 (lW b τ ((qv, iE 0 64 (fun _ => 0)) :: (Y ++ fm (cO en c κ)))) _ [.ref qv] 10
  refine V_astore (L' := [some (.ref (c 0)), some (.ref (b 0)), some (.ref (b 1)), some (.ref (b 2)), some (.ref (b 3)), some (.int (zI one)), some (.int (zI (pt P))), some (.ref qv), none, none, none, none, none, none, none, none, none, none, none, none]) dL_areValues_10 (by decide) rfl ?_
  refine V_bipush dL_areValues_12 (by decide) ?_
  refine V_newl (N := 64) w137 rfl (by decide) ⟨Nat.le_of_ble_eq_true rfl, Nat.le_of_ble_eq_true rfl⟩ dL_areValues_14 (fun qw => ?_)
  show V K tL_areValues 2 128 (lW b τ ((qw, iE 0 64 (fun _ => 0)) :: ((qv, iE 0 64 (fun _ => 0)) :: (Y ++ fm (cO en c κ))))) _ [.ref qw] 16
  refine V_astore (L' := [some (.ref (c 0)), some (.ref (b 0)), some (.ref (b 1)), some (.ref (b 2)), some (.ref (b 3)), some (.int (zI one)), some (.int (zI (pt P))), some (.ref qv), some (.ref qw), none, none, none, none, none, none, none, none, none, none, none]) dL_areValues_16 (by decide) rfl ?_
  refine V_iconst dL_areValues_18 ?_
  refine V_istore (L' := [some (.ref (c 0)), some (.ref (b 0)), some (.ref (b 1)), some (.ref (b 2)), some (.ref (b 3)), some (.int (zI one)), some (.int (zI (pt P))), some (.ref qv), some (.ref qw), some (.int (zI (-1))), none, none, none, none, none, none, none, none, none, none]) dL_areValues_19 (by decide) rfl ?_
  refine V_iconst dL_areValues_21 ?_
  refine V_istore (L' := [some (.ref (c 0)), some (.ref (b 0)), some (.ref (b 1)), some (.ref (b 2)), some (.ref (b 3)), some (.int (zI one)), some (.int (zI (pt P))), some (.ref qv), some (.ref qw), some (.int (zI (-1))), some (.int (zI 1)), none, none, none, none, none, none, none, none, none]) dL_areValues_22 (by decide) rfl ?_
  refine V_iconst dL_areValues_24 ?_
  refine V_istore (L' := [some (.ref (c 0)), some (.ref (b 0)), some (.ref (b 1)), some (.ref (b 2)), some (.ref (b 3)), some (.int (zI one)), some (.int (zI (pt P))), some (.ref qv), some (.ref qw), some (.int (zI (-1))), some (.int (zI 1)), some (.int (zI 0)), none, none, none, none, none, none, none, none]) dL_areValues_25 (by decide) rfl ?_
  refine seg_27 0 (-1) qv qw (fun _ => 0) (fun _ => 0) κ 2 128 ?_ ?_ ?_ ?_ ?_ ?_ ?_
  · omega
  · intro j a b c
    have := bt_b (P := P) (bw := P 0 11) (cw := P 0 12) a b
    omega
  · intro j a b c
    have := bt_b (P := P) (bw := P 0 11) (cw := P 0 12) a b
    omega
  · exact Or.inl ⟨rfl, fun x a b => absurd b (by omega)⟩
  · exact hC
  · omega
  · omega

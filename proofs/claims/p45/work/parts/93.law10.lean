/-! the law: a window chosen -/
set_option maxRecDepth 100000 in
set_option maxHeartbeats 4000000 in
theorem q_isWindow0 (en c b : Nat → Nat) (κ τ : St) (Y : vWd) (one : Int) (two : Int) (P : St) (hp : MI P ∧ LR P τ ∧ CWP P κ ∧ (0 ≤ one ∧ one ≤ 60000) ∧ (0 ≤ two ∧ two ≤ 60000)) : MC (EX en) yL_isWindow tL_isWindow [.ref (c 0), .ref (b 0), .ref (b 1), .int (zI 0), .int (zI one), .int (zI two)] (lW b τ (Y ++ fm (cO en c κ))) (fun v w => ∃ (κ2 : St) (τ2 : St) (P2 : St), v = some (.int (zI (bz true))) ∧ w = (lW b τ2 (Y ++ fm (cO en c κ2))) ∧ (MI P2) ∧ (LR P2 τ2) ∧ (CWP P2 κ2)) := by
  refine MC.of (EX.stb en) [some (.ref (c 0)), some (.ref (b 0)), some (.ref (b 1)), some (.int (zI 0)), some (.int (zI one)), some (.int (zI two)), none, none, none, none, none, none, none, none] 8 rfl rfl rfl (by simp [Value.category]) (Nat.le_of_ble_eq_true rfl) (fun K hK hR => ?_)
  obtain ⟨hM, hL, hC, hp⟩ := hp
  have mR := hM.1
  have mC := hM.2.1
  have mN := hM.2.2.1
  have mp := hM.pts
  have ma := hM.als
  have mV := hM.2.2.2.1
  have mW := hM.2.2.2.2.1
  obtain ⟨hone, htwo⟩ := hp
  have hsm := hL.small hM
  have hsw : 0 ≤ one % (P 0 2 + 1) ∧ one % (P 0 2 + 1) ≤ P 0 2 := by have h1 := Int.emod_nonneg one (b := P 0 2 + 1) (by omega); have h2 := Int.emod_lt_of_pos one (b := P 0 2 + 1) (by omega); omega
  have seg_23 : ∀ (b1 : Bool), (b1 = true ↔ one % (P 0 2 + 1) < P 0 2) → V K tL_isWindow 0 0 (lW b τ (Y ++ fm (cO en c κ))) [some (.ref (c 0)), some (.ref (b 0)), some (.ref (b 1)), some (.int (zI 0)), some (.int (zI one)), some (.int (zI two)), some (.int (zI (one % (P 0 2 + 1)))), none, none, none, none, none, none, none] [.int (zI (bz b1))] 23 := by
    intro b1 hb1
    have seg_88 : ∀ (f1 : Int), (0 ≤ f1 ∧ f1 ≤ 100) → V K tL_isWindow 0 0 (lW b τ (Y ++ fm (cO en c κ))) [some (.ref (c 0)), some (.ref (b 0)), some (.ref (b 1)), some (.int (zI 0)), some (.int (zI one)), some (.int (zI two)), some (.int (zI (one % (P 0 2 + 1)))), some (.int (zI (bz b1))), none, none, none, none, none, none] [.int (zI f1)] 88 := by
      intro f1 hf1
      have seg_160 : ∀ (f2 : Int), (0 ≤ f2 ∧ f2 ≤ 100) → V K tL_isWindow 0 0 (lW b τ (Y ++ fm (cO en c κ))) [some (.ref (c 0)), some (.ref (b 0)), some (.ref (b 1)), some (.int (zI 0)), some (.int (zI one)), some (.int (zI two)), some (.int (zI (one % (P 0 2 + 1)))), some (.int (zI (bz b1))), some (.int (zI f1)), none, none, none, none, none] [.int (zI f2)] 160 := by
        intro f2 hf2
        have seg_179 : ∀ (b2 : Bool), (b2 = true ↔ (0 < f1 ∧ f1 < 100)) → V K tL_isWindow 0 0 (lW b τ (Y ++ fm (cO en c κ))) [some (.ref (c 0)), some (.ref (b 0)), some (.ref (b 1)), some (.int (zI 0)), some (.int (zI one)), some (.int (zI two)), some (.int (zI (one % (P 0 2 + 1)))), some (.int (zI (bz b1))), some (.int (zI f1)), some (.int (zI f2)), none, none, none, none] [.int (zI (bz b2))] 179 := by
          intro b2 hb2
          have seg_198 : ∀ (b3 : Bool), (b3 = true ↔ (0 < f2 ∧ f2 < 100)) → V K tL_isWindow 0 0 (lW b τ (Y ++ fm (cO en c κ))) [some (.ref (c 0)), some (.ref (b 0)), some (.ref (b 1)), some (.int (zI 0)), some (.int (zI one)), some (.int (zI two)), some (.int (zI (one % (P 0 2 + 1)))), some (.int (zI (bz b1))), some (.int (zI f1)), some (.int (zI f2)), some (.int (zI (bz b2))), none, none, none] [.int (zI (bz b3))] 198 := by
            intro b3 hb3
            have seg_252 : ∀ (b4 : Bool), (b4 = true ↔ True) → V K tL_isWindow 0 0 (lW b τ (Y ++ fm (cO en c κ))) [some (.ref (c 0)), some (.ref (b 0)), some (.ref (b 1)), some (.int (zI 0)), some (.int (zI one)), some (.int (zI two)), some (.int (zI (one % (P 0 2 + 1)))), some (.int (zI (bz b1))), some (.int (zI f1)), some (.int (zI f2)), none, none, none, none] [.int (zI (bz b4))] 252 := by
              intro b4 hb4
              refine V_istore (L' := [some (.ref (c 0)), some (.ref (b 0)), some (.ref (b 1)), some (.int (zI 0)), some (.int (zI one)), some (.int (zI two)), some (.int (zI (one % (P 0 2 + 1)))), some (.int (zI (bz b1))), some (.int (zI f1)), some (.int (zI f2)), none, none, some (.int (zI (bz b4))), none]) dL_isWindow_252 (by decide) rfl ?_
              refine V_iload dL_isWindow_254 rfl ?_
              refine V_ifb_eq (tgt := 290) dL_isWindow_256 (by decide) (fun c_1 => ?_) (fun c_1 => ?_)
              · refine V_iload_n dL_isWindow_290 rfl ?_
                refine V_if_ne (tgt := 301) dL_isWindow_291 (by decide) ⟨by decide, by decide⟩ (fun h => absurd h (by decide)) (fun _ => ?_)
                refine V_aload_n dL_isWindow_294 rfl ?_
                refine V_callSF (As := [.ref (b 0)]) hK (q_points (EX.stb en) b τ (Y ++ fm (cO en c κ)) P ⟨hM, hL⟩) mokL_points w871 w872 ⟨Nat.le_of_ble_eq_true rfl, Nat.le_of_ble_eq_true rfl⟩ rfl (Nat.le_of_ble_eq_true rfl) ⟨Nat.le_of_ble_eq_true rfl, Nat.le_of_ble_eq_true rfl⟩ dL_isWindow_295 (fun v w p_3 => ?_)
                obtain ⟨rfl, rfl⟩ := p_3
                show V K tL_isWindow 0 0 (lW b τ (Y ++ fm (cO en c κ))) _ [.int (zI (pt P))] 298
                refine V_goto (tgt := 326) dL_isWindow_298 (by decide) ?_
                refine V_istore (L' := [some (.ref (c 0)), some (.ref (b 0)), some (.ref (b 1)), some (.int (zI 0)), some (.int (zI one)), some (.int (zI two)), some (.int (zI (one % (P 0 2 + 1)))), some (.int (zI (bz b1))), some (.int (zI f1)), some (.int (zI f2)), none, none, some (.int (zI (bz b4))), some (.int (zI (pt P)))]) dL_isWindow_326 (by decide) rfl ?_
                refine V_aload_n dL_isWindow_328 rfl ?_
                refine V_iload_n dL_isWindow_329 rfl ?_
                refine V_if_ne (tgt := 338) dL_isWindow_330 (by decide) ⟨by decide, by decide⟩ (fun h => absurd h (by decide)) (fun _ => ?_)
                refine V_bipush dL_isWindow_333 (by decide) ?_
                refine V_goto (tgt := 342) dL_isWindow_335 (by decide) ?_
                refine V_iload dL_isWindow_342 rfl ?_
                refine V_iload dL_isWindow_344 rfl ?_
                refine V_iload dL_isWindow_346 rfl ?_
                refine V_iconst dL_isWindow_348 ?_
                refine V_iconst dL_isWindow_349 ?_
                refine V_callSBH (As := [.ref (c 0), .int (zI 17), .int (zI (one % (P 0 2 + 1))), .int (zI f1), .int (zI f2), .int (zI 0), .int (zI 0)]) (wr := (lW b τ Y)) (wc := fm (cO en c κ)) rfl hK (d_17 en c κ (one % (P 0 2 + 1)) f1 f2 0 0 P ⟨hM, hC, ⟨by omega, by omega⟩⟩) mokL_does w507 w508 ⟨Nat.le_of_ble_eq_true rfl, Nat.le_of_ble_eq_true rfl⟩ rfl (Nat.le_of_ble_eq_true rfl) ⟨Nat.le_of_ble_eq_true rfl, Nat.le_of_ble_eq_true rfl⟩ dL_isWindow_350 (fun v w p_5 => ?_)
                obtain ⟨κ_6, rfl, rfl, q_7⟩ := p_5
                show V K tL_isWindow 8 50 (lW b τ (Y ++ fm (cO en c κ_6))) _ [.int (zI (dvl (-3000) 0 0 (sp_keepWhole P (one % (P 0 2 + 1)))))] 353
                have e_10 : sp_keepWhole P (one % (P 0 2 + 1)) = (1, 0, P) := gd_f (fun h => by have := hb1.mpr h.2; rw [c_1] at this; exact nomatch this)
                rw [e_10] at q_7
                refine V_eqT (y := zI (-3000)) (by rw [e_10]; rfl) ?_
                show V K tL_isWindow 8 50 (lW b τ (Y ++ fm (cO en c κ_6))) _ [.int (zI (-3000))] 353
                refine V_iload dL_isWindow_353 rfl ?_
                refine V_ifb_ne (tgt := 364) dL_isWindow_355 (by decide) (fun c_11 => absurd (c_11.symm.trans c_1) (by decide)) (fun _ => ?_)
                refine V_sipush dL_isWindow_358 (by decide) ?_
                refine V_goto (tgt := 377) dL_isWindow_361 (by decide) ?_
                refine V_icmp_ne (tgt := 384) dL_isWindow_377 (by decide) ⟨⟨by decide, by decide⟩, ⟨by decide, by decide⟩⟩ (fun h => absurd h (by decide)) (fun _ => ?_)
                refine V_iconst dL_isWindow_380 ?_
                refine V_goto (tgt := 385) dL_isWindow_381 (by decide) ?_
                show V K tL_isWindow 8 50 _ _ [.int (zI (bz true))] 385
                refine V_zret hR rfl (Nat.le_of_ble_eq_true rfl) (Nat.le_of_ble_eq_true rfl) dL_isWindow_385 ?_
                exact ⟨_, _, P, rfl, rfl, hM, hL, q_7⟩
              · refine V_iload dL_isWindow_259 rfl ?_
                refine V_ifb_eq (tgt := 290) dL_isWindow_261 (by decide) (fun c_13 => ?_) (fun c_13 => ?_)
                · exact absurd (hb4.mpr trivial) (by rw [c_13]; decide)
                · have hs2 := hb1.mp c_1
                  have hc2 := hb4.mp c_13
                  refine V_aload_n dL_isWindow_264 rfl ?_
                  refine V_bipush dL_isWindow_265 (by decide) ?_
                  refine V_iload dL_isWindow_267 rfl ?_
                  refine V_iadd dL_isWindow_269 ?_
                  refine V_iload_n dL_isWindow_270 rfl ?_
                  refine ls_1 ⟨by omega, by omega⟩ dL_isWindow_271 ?_
                  refine V_aload_n dL_isWindow_272 rfl ?_
                  refine V_bipush dL_isWindow_273 (by decide) ?_
                  refine V_iload dL_isWindow_275 rfl ?_
                  refine V_iadd dL_isWindow_277 ?_
                  refine V_iload dL_isWindow_278 rfl ?_
                  refine ls_1 ⟨by omega, by omega⟩ dL_isWindow_280 ?_
                  refine V_aload_n dL_isWindow_281 rfl ?_
                  refine V_bipush dL_isWindow_282 (by decide) ?_
                  refine V_iload dL_isWindow_284 rfl ?_
                  refine V_iadd dL_isWindow_286 ?_
                  refine V_iload dL_isWindow_287 rfl ?_
                  refine ls_1 ⟨by omega, by omega⟩ dL_isWindow_289 ?_
                  have hM_14 : MI (kp P (one % (P 0 2 + 1)) 0 0 0) := hM.kp (Or.inl rfl)
                  have hL_15 : LR (kp P (one % (P 0 2 + 1)) 0 0 0) (up (up (up τ 1 (16 + (one % (P 0 2 + 1))) 0) 1 (20 + (one % (P 0 2 + 1))) f1) 1 (24 + (one % (P 0 2 + 1))) f2) := hL.kpg ⟨by omega, by omega⟩ rfl rfl (fun i a b2_ c_ => by rw [up_eq, fup_ne c_, up_eq, fup_ne b2_, up_eq, fup_ne a]) (by rw [up_eq, fup_ne (by omega), up_eq, fup_ne (by omega), up_eq, fup_eq]) (fun h => absurd rfl h) (fun h => absurd h (by decide))
                  refine V_iload_n dL_isWindow_290 rfl ?_
                  refine V_if_ne (tgt := 301) dL_isWindow_291 (by decide) ⟨by decide, by decide⟩ (fun h => absurd h (by decide)) (fun _ => ?_)
                  refine V_aload_n dL_isWindow_294 rfl ?_
                  refine V_callSF (As := [.ref (b 0)]) hK (q_points (EX.stb en) b (up (up (up τ 1 (16 + (one % (P 0 2 + 1))) 0) 1 (20 + (one % (P 0 2 + 1))) f1) 1 (24 + (one % (P 0 2 + 1))) f2) (Y ++ fm (cO en c κ)) (kp P (one % (P 0 2 + 1)) 0 0 0) ⟨hM_14, hL_15⟩) mokL_points w871 w872 ⟨Nat.le_of_ble_eq_true rfl, Nat.le_of_ble_eq_true rfl⟩ rfl (Nat.le_of_ble_eq_true rfl) ⟨Nat.le_of_ble_eq_true rfl, Nat.le_of_ble_eq_true rfl⟩ dL_isWindow_295 (fun v w p_17 => ?_)
                  obtain ⟨rfl, rfl⟩ := p_17
                  show V K tL_isWindow 0 0 (lW b (up (up (up τ 1 (16 + (one % (P 0 2 + 1))) 0) 1 (20 + (one % (P 0 2 + 1))) f1) 1 (24 + (one % (P 0 2 + 1))) f2) (Y ++ fm (cO en c κ))) _ [.int (zI (pt (kp P (one % (P 0 2 + 1)) 0 0 0)))] 298
                  refine V_eqT (y := zI (pt P)) (rfl) ?_
                  refine V_goto (tgt := 326) dL_isWindow_298 (by decide) ?_
                  refine V_istore (L' := [some (.ref (c 0)), some (.ref (b 0)), some (.ref (b 1)), some (.int (zI 0)), some (.int (zI one)), some (.int (zI two)), some (.int (zI (one % (P 0 2 + 1)))), some (.int (zI (bz b1))), some (.int (zI f1)), some (.int (zI f2)), none, none, some (.int (zI (bz b4))), some (.int (zI (pt P)))]) dL_isWindow_326 (by decide) rfl ?_
                  refine V_aload_n dL_isWindow_328 rfl ?_
                  refine V_iload_n dL_isWindow_329 rfl ?_
                  refine V_if_ne (tgt := 338) dL_isWindow_330 (by decide) ⟨by decide, by decide⟩ (fun h => absurd h (by decide)) (fun _ => ?_)
                  refine V_bipush dL_isWindow_333 (by decide) ?_
                  refine V_goto (tgt := 342) dL_isWindow_335 (by decide) ?_
                  refine V_iload dL_isWindow_342 rfl ?_
                  refine V_iload dL_isWindow_344 rfl ?_
                  refine V_iload dL_isWindow_346 rfl ?_
                  refine V_iconst dL_isWindow_348 ?_
                  refine V_iconst dL_isWindow_349 ?_
                  refine V_callSBH (As := [.ref (c 0), .int (zI 17), .int (zI (one % (P 0 2 + 1))), .int (zI f1), .int (zI f2), .int (zI 0), .int (zI 0)]) (wr := (lW b (up (up (up τ 1 (16 + (one % (P 0 2 + 1))) 0) 1 (20 + (one % (P 0 2 + 1))) f1) 1 (24 + (one % (P 0 2 + 1))) f2) Y)) (wc := fm (cO en c κ)) rfl hK (d_17 en c κ (one % (P 0 2 + 1)) f1 f2 0 0 P ⟨hM, hC, ⟨by omega, by omega⟩⟩) mokL_does w507 w508 ⟨Nat.le_of_ble_eq_true rfl, Nat.le_of_ble_eq_true rfl⟩ rfl (Nat.le_of_ble_eq_true rfl) ⟨Nat.le_of_ble_eq_true rfl, Nat.le_of_ble_eq_true rfl⟩ dL_isWindow_350 (fun v w p_19 => ?_)
                  obtain ⟨κ_20, rfl, rfl, q_21⟩ := p_19
                  show V K tL_isWindow 8 50 (lW b (up (up (up τ 1 (16 + (one % (P 0 2 + 1))) 0) 1 (20 + (one % (P 0 2 + 1))) f1) 1 (24 + (one % (P 0 2 + 1))) f2) (Y ++ fm (cO en c κ_20))) _ [.int (zI (dvl (-3000) 0 0 (sp_keepWhole P (one % (P 0 2 + 1)))))] 353
                  have e_24 : sp_keepWhole P (one % (P 0 2 + 1)) = (0, sz (kp P (one % (P 0 2 + 1)) 0 0 0) (one % (P 0 2 + 1)), kp P (one % (P 0 2 + 1)) 0 0 0) := gd_t ⟨by omega, hb1.mp c_1⟩
                  rw [e_24] at q_21
                  refine V_eqT (y := zI (sz (kp P (one % (P 0 2 + 1)) 0 0 0) (one % (P 0 2 + 1)))) (by rw [e_24]; rfl) ?_
                  show V K tL_isWindow 8 50 (lW b (up (up (up τ 1 (16 + (one % (P 0 2 + 1))) 0) 1 (20 + (one % (P 0 2 + 1))) f1) 1 (24 + (one % (P 0 2 + 1))) f2) (Y ++ fm (cO en c κ_20))) _ [.int (zI (sz (kp P (one % (P 0 2 + 1)) 0 0 0) (one % (P 0 2 + 1))))] 353
                  have hsz : sz (kp P (one % (P 0 2 + 1)) 0 0 0) (one % (P 0 2 + 1)) = pt P := by rw [sz_kpw]; rfl
                  refine V_iload dL_isWindow_353 rfl ?_
                  refine V_ifb_ne (tgt := 364) dL_isWindow_355 (by decide) (fun _ => ?_) (fun c_25 => absurd (c_25.symm.trans c_1) (by decide))
                  refine V_iload dL_isWindow_364 rfl ?_
                  refine V_ifb_eq (tgt := 374) dL_isWindow_366 (by decide) (fun c_26 => absurd (c_26.symm.trans c_13) (by decide)) (fun _ => ?_)
                  refine V_iload dL_isWindow_369 rfl ?_
                  refine V_goto (tgt := 377) dL_isWindow_371 (by decide) ?_
                  refine V_icmp_ne (tgt := 384) dL_isWindow_377 (by decide) ⟨by rw [hsz]; exact ⟨by omega, by omega⟩, ⟨by omega, by omega⟩⟩ (fun c_27 => absurd (hsz) c_27) (fun _ => ?_)
                  refine V_iconst dL_isWindow_380 ?_
                  refine V_goto (tgt := 385) dL_isWindow_381 (by decide) ?_
                  show V K tL_isWindow 8 50 _ _ [.int (zI (bz true))] 385
                  refine V_zret hR rfl (Nat.le_of_ble_eq_true rfl) (Nat.le_of_ble_eq_true rfl) dL_isWindow_385 ?_
                  exact ⟨_, _, _, rfl, rfl, hM_14, hL_15, q_21⟩
            refine V_istore (L' := [some (.ref (c 0)), some (.ref (b 0)), some (.ref (b 1)), some (.int (zI 0)), some (.int (zI one)), some (.int (zI two)), some (.int (zI (one % (P 0 2 + 1)))), some (.int (zI (bz b1))), some (.int (zI f1)), some (.int (zI f2)), some (.int (zI (bz b2))), some (.int (zI (bz b3))), none, none]) dL_isWindow_198 (by decide) rfl ?_
            refine V_iload_n dL_isWindow_200 rfl ?_
            refine V_if_eq (tgt := 247) dL_isWindow_201 (by decide) ⟨by decide, by decide⟩ (fun _ => ?_) (fun h => absurd h (by decide))
            refine V_iconst dL_isWindow_247 ?_
            refine V_goto (tgt := 252) dL_isWindow_248 (by decide) ?_
            refine V_mask (L' := [some (.ref (c 0)), some (.ref (b 0)), some (.ref (b 1)), some (.int (zI 0)), some (.int (zI one)), some (.int (zI two)), some (.int (zI (one % (P 0 2 + 1)))), some (.int (zI (bz b1))), some (.int (zI f1)), some (.int (zI f2)), none, none, none, none]) [true, true, true, true, true, true, true, true, true, true, false, false, false, false] rfl ?_
            refine seg_252 true ?_
            · exact ⟨fun _ => trivial, fun _ => rfl⟩
          refine V_istore (L' := [some (.ref (c 0)), some (.ref (b 0)), some (.ref (b 1)), some (.int (zI 0)), some (.int (zI one)), some (.int (zI two)), some (.int (zI (one % (P 0 2 + 1)))), some (.int (zI (bz b1))), some (.int (zI f1)), some (.int (zI f2)), some (.int (zI (bz b2))), none, none, none]) dL_isWindow_179 (by decide) rfl ?_
          refine V_iload dL_isWindow_181 rfl ?_
          refine V_if_le (tgt := 197) dL_isWindow_183 (by decide) ⟨by omega, by omega⟩ (fun c_29 => ?_) (fun c_29 => ?_)
          · refine V_iconst dL_isWindow_197 ?_
            refine seg_198 false ?_
            · exact ⟨(fun h => nomatch h), fun h => absurd h.1 (by omega)⟩
          · refine V_iload dL_isWindow_186 rfl ?_
            refine V_bipush dL_isWindow_188 (by decide) ?_
            refine V_icmp_ge (tgt := 197) dL_isWindow_190 (by decide) ⟨⟨by omega, by omega⟩, ⟨by omega, by omega⟩⟩ (fun c_30 => ?_) (fun c_30 => ?_)
            · refine V_iconst dL_isWindow_197 ?_
              refine seg_198 false ?_
              · exact ⟨(fun h => nomatch h), fun h => absurd h.2 (by omega)⟩
            · refine V_iconst dL_isWindow_193 ?_
              refine V_goto (tgt := 198) dL_isWindow_194 (by decide) ?_
              refine seg_198 true ?_
              · exact ⟨fun _ => ⟨by omega, by omega⟩, fun _ => rfl⟩
        refine V_istore (L' := [some (.ref (c 0)), some (.ref (b 0)), some (.ref (b 1)), some (.int (zI 0)), some (.int (zI one)), some (.int (zI two)), some (.int (zI (one % (P 0 2 + 1)))), some (.int (zI (bz b1))), some (.int (zI f1)), some (.int (zI f2)), none, none, none, none]) dL_isWindow_160 (by decide) rfl ?_
        refine V_iload dL_isWindow_162 rfl ?_
        refine V_if_le (tgt := 178) dL_isWindow_164 (by decide) ⟨by omega, by omega⟩ (fun c_31 => ?_) (fun c_31 => ?_)
        · refine V_iconst dL_isWindow_178 ?_
          refine seg_179 false ?_
          · exact ⟨(fun h => nomatch h), fun h => absurd h.1 (by omega)⟩
        · refine V_iload dL_isWindow_167 rfl ?_
          refine V_bipush dL_isWindow_169 (by decide) ?_
          refine V_icmp_ge (tgt := 178) dL_isWindow_171 (by decide) ⟨⟨by omega, by omega⟩, ⟨by omega, by omega⟩⟩ (fun c_32 => ?_) (fun c_32 => ?_)
          · refine V_iconst dL_isWindow_178 ?_
            refine seg_179 false ?_
            · exact ⟨(fun h => nomatch h), fun h => absurd h.2 (by omega)⟩
          · refine V_iconst dL_isWindow_174 ?_
            refine V_goto (tgt := 179) dL_isWindow_175 (by decide) ?_
            refine seg_179 true ?_
            · exact ⟨fun _ => ⟨by omega, by omega⟩, fun _ => rfl⟩
      refine V_istore (L' := [some (.ref (c 0)), some (.ref (b 0)), some (.ref (b 1)), some (.int (zI 0)), some (.int (zI one)), some (.int (zI two)), some (.int (zI (one % (P 0 2 + 1)))), some (.int (zI (bz b1))), some (.int (zI f1)), none, none, none, none, none]) dL_isWindow_88 (by decide) rfl ?_
      refine V_iload dL_isWindow_90 rfl ?_
      refine V_bipush dL_isWindow_92 (by decide) ?_
      refine V_idiv dL_isWindow_94 ⟨⟨by omega, by omega⟩, ⟨by omega, by omega⟩, by omega, by omega⟩ ?_
      refine V_bipush dL_isWindow_95 (by decide) ?_
      refine V_iremN dL_isWindow_97 ⟨⟨by omega, by omega⟩, ⟨by omega, by omega⟩, by omega, by omega⟩ ?_
      refine V_if_ne (tgt := 106) dL_isWindow_98 (by decide) ⟨by omega, by omega⟩ (fun c_33 => ?_) (fun c_33 => ?_)
      · refine V_iload dL_isWindow_106 rfl ?_
        refine V_bipush dL_isWindow_108 (by decide) ?_
        refine V_idiv dL_isWindow_110 ⟨⟨by omega, by omega⟩, ⟨by omega, by omega⟩, by omega, by omega⟩ ?_
        refine V_bipush dL_isWindow_111 (by decide) ?_
        refine V_iremN dL_isWindow_113 ⟨⟨by omega, by omega⟩, ⟨by omega, by omega⟩, by omega, by omega⟩ ?_
        refine V_iconst dL_isWindow_114 ?_
        refine V_icmp_ne (tgt := 122) dL_isWindow_115 (by decide) ⟨⟨by omega, by omega⟩, ⟨by omega, by omega⟩⟩ (fun c_34 => ?_) (fun c_34 => ?_)
        · refine V_iload dL_isWindow_122 rfl ?_
          refine V_bipush dL_isWindow_124 (by decide) ?_
          refine V_idiv dL_isWindow_126 ⟨⟨by omega, by omega⟩, ⟨by omega, by omega⟩, by omega, by omega⟩ ?_
          refine V_bipush dL_isWindow_127 (by decide) ?_
          refine V_iremN dL_isWindow_129 ⟨⟨by omega, by omega⟩, ⟨by omega, by omega⟩, by omega, by omega⟩ ?_
          refine V_iconst dL_isWindow_130 ?_
          refine V_icmp_ne (tgt := 149) dL_isWindow_131 (by decide) ⟨⟨by omega, by omega⟩, ⟨by omega, by omega⟩⟩ (fun c_35 => ?_) (fun c_35 => ?_)
          · refine V_iconst dL_isWindow_149 ?_
            refine V_iload dL_isWindow_150 rfl ?_
            refine V_sipush dL_isWindow_152 (by decide) ?_
            refine V_idiv dL_isWindow_155 ⟨⟨by omega, by omega⟩, ⟨by omega, by omega⟩, by omega, by omega⟩ ?_
            refine V_bipush dL_isWindow_156 (by decide) ?_
            refine V_iremN dL_isWindow_158 ⟨⟨by omega, by omega⟩, ⟨by omega, by omega⟩, by omega, by omega⟩ ?_
            refine V_iadd dL_isWindow_159 ?_
            refine seg_160 (1 + ((two / 729) % 9)) ?_
            · omega
          · refine V_iload_n dL_isWindow_134 rfl ?_
            refine V_iconst dL_isWindow_135 ?_
            refine V_icmp_eq (tgt := 149) dL_isWindow_136 (by decide) ⟨⟨by decide, by decide⟩, ⟨by decide, by decide⟩⟩ (fun h => absurd h (by decide)) (fun _ => ?_)
            refine V_iconst dL_isWindow_139 ?_
            refine V_iload dL_isWindow_140 rfl ?_
            refine V_bipush dL_isWindow_142 (by decide) ?_
            refine V_iremN dL_isWindow_144 ⟨⟨by omega, by omega⟩, ⟨by omega, by omega⟩, by omega, by omega⟩ ?_
            refine V_iadd dL_isWindow_145 ?_
            refine V_goto (tgt := 160) dL_isWindow_146 (by decide) ?_
            refine seg_160 (1 + (one % 99)) ?_
            · omega
        · refine V_iconst dL_isWindow_118 ?_
          refine V_goto (tgt := 160) dL_isWindow_119 (by decide) ?_
          refine seg_160 0 ?_
          · omega
      · refine V_bipush dL_isWindow_101 (by decide) ?_
        refine V_goto (tgt := 160) dL_isWindow_103 (by decide) ?_
        refine seg_160 100 ?_
        · omega
    refine V_istore (L' := [some (.ref (c 0)), some (.ref (b 0)), some (.ref (b 1)), some (.int (zI 0)), some (.int (zI one)), some (.int (zI two)), some (.int (zI (one % (P 0 2 + 1)))), some (.int (zI (bz b1))), none, none, none, none, none, none]) dL_isWindow_23 (by decide) rfl ?_
    refine V_iload dL_isWindow_25 rfl ?_
    refine V_bipush dL_isWindow_27 (by decide) ?_
    refine V_iremN dL_isWindow_29 ⟨⟨by omega, by omega⟩, ⟨by omega, by omega⟩, by omega, by omega⟩ ?_
    refine V_if_ne (tgt := 37) dL_isWindow_30 (by decide) ⟨by omega, by omega⟩ (fun c_37 => ?_) (fun c_37 => ?_)
    · refine V_iload dL_isWindow_37 rfl ?_
      refine V_bipush dL_isWindow_39 (by decide) ?_
      refine V_iremN dL_isWindow_41 ⟨⟨by omega, by omega⟩, ⟨by omega, by omega⟩, by omega, by omega⟩ ?_
      refine V_iconst dL_isWindow_42 ?_
      refine V_icmp_ne (tgt := 51) dL_isWindow_43 (by decide) ⟨⟨by omega, by omega⟩, ⟨by omega, by omega⟩⟩ (fun c_38 => ?_) (fun c_38 => ?_)
      · refine V_iload dL_isWindow_51 rfl ?_
        refine V_bipush dL_isWindow_53 (by decide) ?_
        refine V_iremN dL_isWindow_55 ⟨⟨by omega, by omega⟩, ⟨by omega, by omega⟩, by omega, by omega⟩ ?_
        refine V_iconst dL_isWindow_56 ?_
        refine V_icmp_ne (tgt := 78) dL_isWindow_57 (by decide) ⟨⟨by omega, by omega⟩, ⟨by omega, by omega⟩⟩ (fun c_39 => ?_) (fun c_39 => ?_)
        · refine V_iconst dL_isWindow_78 ?_
          refine V_iload dL_isWindow_79 rfl ?_
          refine V_bipush dL_isWindow_81 (by decide) ?_
          refine V_idiv dL_isWindow_83 ⟨⟨by omega, by omega⟩, ⟨by omega, by omega⟩, by omega, by omega⟩ ?_
          refine V_bipush dL_isWindow_84 (by decide) ?_
          refine V_iremN dL_isWindow_86 ⟨⟨by omega, by omega⟩, ⟨by omega, by omega⟩, by omega, by omega⟩ ?_
          refine V_iadd dL_isWindow_87 ?_
          refine seg_88 (1 + ((two / 9) % 9)) ?_
          · omega
        · refine V_iload_n dL_isWindow_60 rfl ?_
          refine V_iconst dL_isWindow_61 ?_
          refine V_icmp_eq (tgt := 78) dL_isWindow_62 (by decide) ⟨⟨by decide, by decide⟩, ⟨by decide, by decide⟩⟩ (fun h => absurd h (by decide)) (fun _ => ?_)
          refine V_iconst dL_isWindow_65 ?_
          refine V_iload dL_isWindow_66 rfl ?_
          refine V_bipush dL_isWindow_68 (by decide) ?_
          refine V_idiv dL_isWindow_70 ⟨⟨by omega, by omega⟩, ⟨by omega, by omega⟩, by omega, by omega⟩ ?_
          refine V_bipush dL_isWindow_71 (by decide) ?_
          refine V_iremN dL_isWindow_73 ⟨⟨by omega, by omega⟩, ⟨by omega, by omega⟩, by omega, by omega⟩ ?_
          refine V_iadd dL_isWindow_74 ?_
          refine V_goto (tgt := 88) dL_isWindow_75 (by decide) ?_
          refine seg_88 (1 + ((two / 9) % 99)) ?_
          · omega
      · refine V_bipush dL_isWindow_46 (by decide) ?_
        refine V_goto (tgt := 88) dL_isWindow_48 (by decide) ?_
        refine seg_88 100 ?_
        · omega
    · refine V_iconst dL_isWindow_33 ?_
      refine V_goto (tgt := 88) dL_isWindow_34 (by decide) ?_
      refine seg_88 0 ?_
      · omega
  refine V_iload dL_isWindow_0 rfl ?_
  refine V_aload_n dL_isWindow_2 rfl ?_
  refine V_iconst dL_isWindow_3 ?_
  refine ll_0 ⟨by omega, by omega⟩ dL_isWindow_4 ?_
  refine V_eqT (y := zI (P 0 2)) (congrArg zI (LR.g2 hL)) ?_
  refine V_iconst dL_isWindow_5 ?_
  refine V_iadd dL_isWindow_6 ?_
  refine V_iremN dL_isWindow_7 ⟨⟨by omega, by omega⟩, ⟨by omega, by omega⟩, by omega, by omega⟩ ?_
  refine V_istore (L' := [some (.ref (c 0)), some (.ref (b 0)), some (.ref (b 1)), some (.int (zI 0)), some (.int (zI one)), some (.int (zI two)), some (.int (zI (one % ((P 0 2) + 1)))), none, none, none, none, none, none, none]) dL_isWindow_8 (by decide) rfl ?_
  refine V_iload dL_isWindow_10 rfl ?_
  refine V_aload_n dL_isWindow_12 rfl ?_
  refine V_iconst dL_isWindow_13 ?_
  refine ll_0 ⟨by omega, by omega⟩ dL_isWindow_14 ?_
  refine V_eqT (y := zI (P 0 2)) (congrArg zI (LR.g2 hL)) ?_
  refine V_icmp_ge (tgt := 22) dL_isWindow_15 (by decide) ⟨⟨by omega, by omega⟩, ⟨by omega, by omega⟩⟩ (fun c_41 => ?_) (fun c_41 => ?_)
  · refine V_iconst dL_isWindow_22 ?_
    refine seg_23 false ?_
    · exact ⟨(fun h => nomatch h), fun h => absurd h (by omega)⟩
  · refine V_iconst dL_isWindow_18 ?_
    refine V_goto (tgt := 23) dL_isWindow_19 (by decide) ?_
    refine seg_23 true ?_
    · exact ⟨fun _ => by omega, fun _ => rfl⟩
set_option maxRecDepth 100000 in
set_option maxHeartbeats 4000000 in
theorem q_isWindow1 (en c b : Nat → Nat) (κ τ : St) (Y : vWd) (one : Int) (two : Int) (P : St) (hp : MI P ∧ LR P τ ∧ CWP P κ ∧ (0 ≤ one ∧ one ≤ 60000) ∧ (0 ≤ two ∧ two ≤ 60000)) : MC (EX en) yL_isWindow tL_isWindow [.ref (c 0), .ref (b 0), .ref (b 1), .int (zI 1), .int (zI one), .int (zI two)] (lW b τ (Y ++ fm (cO en c κ))) (fun v w => ∃ (κ2 : St) (τ2 : St) (P2 : St), v = some (.int (zI (bz true))) ∧ w = (lW b τ2 (Y ++ fm (cO en c κ2))) ∧ (MI P2) ∧ (LR P2 τ2) ∧ (CWP P2 κ2)) := by
  refine MC.of (EX.stb en) [some (.ref (c 0)), some (.ref (b 0)), some (.ref (b 1)), some (.int (zI 1)), some (.int (zI one)), some (.int (zI two)), none, none, none, none, none, none, none, none] 8 rfl rfl rfl (by simp [Value.category]) (Nat.le_of_ble_eq_true rfl) (fun K hK hR => ?_)
  obtain ⟨hM, hL, hC, hp⟩ := hp
  have mR := hM.1
  have mC := hM.2.1
  have mN := hM.2.2.1
  have mp := hM.pts
  have ma := hM.als
  have mV := hM.2.2.2.1
  have mW := hM.2.2.2.2.1
  obtain ⟨hone, htwo⟩ := hp
  have hsm := hL.small hM
  have hsw : 0 ≤ one % (P 0 2 + 1) ∧ one % (P 0 2 + 1) ≤ P 0 2 := by have h1 := Int.emod_nonneg one (b := P 0 2 + 1) (by omega); have h2 := Int.emod_lt_of_pos one (b := P 0 2 + 1) (by omega); omega
  have seg_23 : ∀ (b1 : Bool), (b1 = true ↔ one % (P 0 2 + 1) < P 0 2) → V K tL_isWindow 0 0 (lW b τ (Y ++ fm (cO en c κ))) [some (.ref (c 0)), some (.ref (b 0)), some (.ref (b 1)), some (.int (zI 1)), some (.int (zI one)), some (.int (zI two)), some (.int (zI (one % (P 0 2 + 1)))), none, none, none, none, none, none, none] [.int (zI (bz b1))] 23 := by
    intro b1 hb1
    have seg_88 : ∀ (f1 : Int), (0 ≤ f1 ∧ f1 ≤ 100) → V K tL_isWindow 0 0 (lW b τ (Y ++ fm (cO en c κ))) [some (.ref (c 0)), some (.ref (b 0)), some (.ref (b 1)), some (.int (zI 1)), some (.int (zI one)), some (.int (zI two)), some (.int (zI (one % (P 0 2 + 1)))), some (.int (zI (bz b1))), none, none, none, none, none, none] [.int (zI f1)] 88 := by
      intro f1 hf1
      have seg_160 : ∀ (f2 : Int), (0 ≤ f2 ∧ f2 ≤ 100) → V K tL_isWindow 0 0 (lW b τ (Y ++ fm (cO en c κ))) [some (.ref (c 0)), some (.ref (b 0)), some (.ref (b 1)), some (.int (zI 1)), some (.int (zI one)), some (.int (zI two)), some (.int (zI (one % (P 0 2 + 1)))), some (.int (zI (bz b1))), some (.int (zI f1)), none, none, none, none, none] [.int (zI f2)] 160 := by
        intro f2 hf2
        have seg_179 : ∀ (b2 : Bool), (b2 = true ↔ (0 < f1 ∧ f1 < 100)) → V K tL_isWindow 0 0 (lW b τ (Y ++ fm (cO en c κ))) [some (.ref (c 0)), some (.ref (b 0)), some (.ref (b 1)), some (.int (zI 1)), some (.int (zI one)), some (.int (zI two)), some (.int (zI (one % (P 0 2 + 1)))), some (.int (zI (bz b1))), some (.int (zI f1)), some (.int (zI f2)), none, none, none, none] [.int (zI (bz b2))] 179 := by
          intro b2 hb2
          have seg_198 : ∀ (b3 : Bool), (b3 = true ↔ (0 < f2 ∧ f2 < 100)) → V K tL_isWindow 0 0 (lW b τ (Y ++ fm (cO en c κ))) [some (.ref (c 0)), some (.ref (b 0)), some (.ref (b 1)), some (.int (zI 1)), some (.int (zI one)), some (.int (zI two)), some (.int (zI (one % (P 0 2 + 1)))), some (.int (zI (bz b1))), some (.int (zI f1)), some (.int (zI f2)), some (.int (zI (bz b2))), none, none, none] [.int (zI (bz b3))] 198 := by
            intro b3 hb3
            have seg_252 : ∀ (b4 : Bool), (b4 = true ↔ (0 < f1 ∧ f1 < 100)) → V K tL_isWindow 0 0 (lW b τ (Y ++ fm (cO en c κ))) [some (.ref (c 0)), some (.ref (b 0)), some (.ref (b 1)), some (.int (zI 1)), some (.int (zI one)), some (.int (zI two)), some (.int (zI (one % (P 0 2 + 1)))), some (.int (zI (bz b1))), some (.int (zI f1)), some (.int (zI f2)), none, none, none, none] [.int (zI (bz b4))] 252 := by
              intro b4 hb4
              refine V_istore (L' := [some (.ref (c 0)), some (.ref (b 0)), some (.ref (b 1)), some (.int (zI 1)), some (.int (zI one)), some (.int (zI two)), some (.int (zI (one % (P 0 2 + 1)))), some (.int (zI (bz b1))), some (.int (zI f1)), some (.int (zI f2)), none, none, some (.int (zI (bz b4))), none]) dL_isWindow_252 (by decide) rfl ?_
              refine V_iload dL_isWindow_254 rfl ?_
              refine V_ifb_eq (tgt := 290) dL_isWindow_256 (by decide) (fun c_1 => ?_) (fun c_1 => ?_)
              · refine V_iload_n dL_isWindow_290 rfl ?_
                refine V_if_ne (tgt := 301) dL_isWindow_291 (by decide) ⟨by decide, by decide⟩ (fun _ => ?_) (fun h => absurd h (by decide))
                refine V_iload_n dL_isWindow_301 rfl ?_
                refine V_iconst dL_isWindow_302 ?_
                refine V_icmp_ne (tgt := 311) dL_isWindow_303 (by decide) ⟨⟨by decide, by decide⟩, ⟨by decide, by decide⟩⟩ (fun h => absurd h (by decide)) (fun _ => ?_)
                refine V_iload dL_isWindow_306 rfl ?_
                refine V_goto (tgt := 326) dL_isWindow_308 (by decide) ?_
                refine V_istore (L' := [some (.ref (c 0)), some (.ref (b 0)), some (.ref (b 1)), some (.int (zI 1)), some (.int (zI one)), some (.int (zI two)), some (.int (zI (one % (P 0 2 + 1)))), some (.int (zI (bz b1))), some (.int (zI f1)), some (.int (zI f2)), none, none, some (.int (zI (bz b4))), some (.int (zI f1))]) dL_isWindow_326 (by decide) rfl ?_
                refine V_aload_n dL_isWindow_328 rfl ?_
                refine V_iload_n dL_isWindow_329 rfl ?_
                refine V_if_ne (tgt := 338) dL_isWindow_330 (by decide) ⟨by decide, by decide⟩ (fun _ => ?_) (fun h => absurd h (by decide))
                refine V_bipush dL_isWindow_338 (by decide) ?_
                refine V_iload_n dL_isWindow_340 rfl ?_
                refine V_iadd dL_isWindow_341 ?_
                refine V_eqT (y := zI (7)) rfl ?_
                refine V_iload dL_isWindow_342 rfl ?_
                refine V_iload dL_isWindow_344 rfl ?_
                refine V_iload dL_isWindow_346 rfl ?_
                refine V_iconst dL_isWindow_348 ?_
                refine V_iconst dL_isWindow_349 ?_
                refine V_callSBH (As := [.ref (c 0), .int (zI 7), .int (zI (one % (P 0 2 + 1))), .int (zI f1), .int (zI f2), .int (zI 0), .int (zI 0)]) (wr := (lW b τ Y)) (wc := fm (cO en c κ)) rfl hK (d_7 en c κ (one % (P 0 2 + 1)) f1 f2 0 0 P ⟨hM, hC, ⟨by omega, by omega⟩, ⟨by omega, by omega⟩⟩) mokL_does w507 w508 ⟨Nat.le_of_ble_eq_true rfl, Nat.le_of_ble_eq_true rfl⟩ rfl (Nat.le_of_ble_eq_true rfl) ⟨Nat.le_of_ble_eq_true rfl, Nat.le_of_ble_eq_true rfl⟩ dL_isWindow_350 (fun v w p_5 => ?_)
                obtain ⟨κ_6, rfl, rfl, q_7⟩ := p_5
                show V K tL_isWindow 8 50 (lW b τ (Y ++ fm (cO en c κ_6))) _ [.int (zI (dvl (-3000) (-2000) 0 (sp_keepRest P (one % (P 0 2 + 1)) f1)))] 353
                have e_10 : sp_keepRest P (one % (P 0 2 + 1)) f1 = (1, 0, P) := gd_f (fun h => by have := hb1.mpr h.2; rw [c_1] at this; exact nomatch this)
                rw [e_10] at q_7
                refine V_eqT (y := zI (-3000)) (by rw [e_10]; rfl) ?_
                show V K tL_isWindow 8 50 (lW b τ (Y ++ fm (cO en c κ_6))) _ [.int (zI (-3000))] 353
                refine V_iload dL_isWindow_353 rfl ?_
                refine V_ifb_ne (tgt := 364) dL_isWindow_355 (by decide) (fun c_11 => absurd (c_11.symm.trans c_1) (by decide)) (fun _ => ?_)
                refine V_sipush dL_isWindow_358 (by decide) ?_
                refine V_goto (tgt := 377) dL_isWindow_361 (by decide) ?_
                refine V_icmp_ne (tgt := 384) dL_isWindow_377 (by decide) ⟨⟨by decide, by decide⟩, ⟨by decide, by decide⟩⟩ (fun h => absurd h (by decide)) (fun _ => ?_)
                refine V_iconst dL_isWindow_380 ?_
                refine V_goto (tgt := 385) dL_isWindow_381 (by decide) ?_
                show V K tL_isWindow 8 50 _ _ [.int (zI (bz true))] 385
                refine V_zret hR rfl (Nat.le_of_ble_eq_true rfl) (Nat.le_of_ble_eq_true rfl) dL_isWindow_385 ?_
                exact ⟨_, _, P, rfl, rfl, hM, hL, q_7⟩
              · refine V_iload dL_isWindow_259 rfl ?_
                refine V_ifb_eq (tgt := 290) dL_isWindow_261 (by decide) (fun c_13 => ?_) (fun c_13 => ?_)
                · refine V_iload_n dL_isWindow_290 rfl ?_
                  refine V_if_ne (tgt := 301) dL_isWindow_291 (by decide) ⟨by decide, by decide⟩ (fun _ => ?_) (fun h => absurd h (by decide))
                  refine V_iload_n dL_isWindow_301 rfl ?_
                  refine V_iconst dL_isWindow_302 ?_
                  refine V_icmp_ne (tgt := 311) dL_isWindow_303 (by decide) ⟨⟨by decide, by decide⟩, ⟨by decide, by decide⟩⟩ (fun h => absurd h (by decide)) (fun _ => ?_)
                  refine V_iload dL_isWindow_306 rfl ?_
                  refine V_goto (tgt := 326) dL_isWindow_308 (by decide) ?_
                  refine V_istore (L' := [some (.ref (c 0)), some (.ref (b 0)), some (.ref (b 1)), some (.int (zI 1)), some (.int (zI one)), some (.int (zI two)), some (.int (zI (one % (P 0 2 + 1)))), some (.int (zI (bz b1))), some (.int (zI f1)), some (.int (zI f2)), none, none, some (.int (zI (bz b4))), some (.int (zI f1))]) dL_isWindow_326 (by decide) rfl ?_
                  refine V_aload_n dL_isWindow_328 rfl ?_
                  refine V_iload_n dL_isWindow_329 rfl ?_
                  refine V_if_ne (tgt := 338) dL_isWindow_330 (by decide) ⟨by decide, by decide⟩ (fun _ => ?_) (fun h => absurd h (by decide))
                  refine V_bipush dL_isWindow_338 (by decide) ?_
                  refine V_iload_n dL_isWindow_340 rfl ?_
                  refine V_iadd dL_isWindow_341 ?_
                  refine V_eqT (y := zI (7)) rfl ?_
                  refine V_iload dL_isWindow_342 rfl ?_
                  refine V_iload dL_isWindow_344 rfl ?_
                  refine V_iload dL_isWindow_346 rfl ?_
                  refine V_iconst dL_isWindow_348 ?_
                  refine V_iconst dL_isWindow_349 ?_
                  refine V_callSBH (As := [.ref (c 0), .int (zI 7), .int (zI (one % (P 0 2 + 1))), .int (zI f1), .int (zI f2), .int (zI 0), .int (zI 0)]) (wr := (lW b τ Y)) (wc := fm (cO en c κ)) rfl hK (d_7 en c κ (one % (P 0 2 + 1)) f1 f2 0 0 P ⟨hM, hC, ⟨by omega, by omega⟩, ⟨by omega, by omega⟩⟩) mokL_does w507 w508 ⟨Nat.le_of_ble_eq_true rfl, Nat.le_of_ble_eq_true rfl⟩ rfl (Nat.le_of_ble_eq_true rfl) ⟨Nat.le_of_ble_eq_true rfl, Nat.le_of_ble_eq_true rfl⟩ dL_isWindow_350 (fun v w p_17 => ?_)
                  obtain ⟨κ_18, rfl, rfl, q_19⟩ := p_17
                  show V K tL_isWindow 8 50 (lW b τ (Y ++ fm (cO en c κ_18))) _ [.int (zI (dvl (-3000) (-2000) 0 (sp_keepRest P (one % (P 0 2 + 1)) f1)))] 353
                  have e_22 : sp_keepRest P (one % (P 0 2 + 1)) f1 = (2, 0, P) := (gd_t ⟨by omega, hb1.mp c_1⟩).trans (gd_f (fun h => by have := hb4.mpr (by omega); rw [c_13] at this; exact nomatch this))
                  rw [e_22] at q_19
                  refine V_eqT (y := zI (-2000)) (by rw [e_22]; rfl) ?_
                  show V K tL_isWindow 8 50 (lW b τ (Y ++ fm (cO en c κ_18))) _ [.int (zI (-2000))] 353
                  refine V_iload dL_isWindow_353 rfl ?_
                  refine V_ifb_ne (tgt := 364) dL_isWindow_355 (by decide) (fun _ => ?_) (fun c_23 => absurd (c_23.symm.trans c_1) (by decide))
                  refine V_iload dL_isWindow_364 rfl ?_
                  refine V_ifb_eq (tgt := 374) dL_isWindow_366 (by decide) (fun _ => ?_) (fun c_24 => absurd (c_24.symm.trans c_13) (by decide))
                  refine V_sipush dL_isWindow_374 (by decide) ?_
                  refine V_icmp_ne (tgt := 384) dL_isWindow_377 (by decide) ⟨⟨by decide, by decide⟩, ⟨by decide, by decide⟩⟩ (fun h => absurd h (by decide)) (fun _ => ?_)
                  refine V_iconst dL_isWindow_380 ?_
                  refine V_goto (tgt := 385) dL_isWindow_381 (by decide) ?_
                  show V K tL_isWindow 8 50 _ _ [.int (zI (bz true))] 385
                  refine V_zret hR rfl (Nat.le_of_ble_eq_true rfl) (Nat.le_of_ble_eq_true rfl) dL_isWindow_385 ?_
                  exact ⟨_, _, P, rfl, rfl, hM, hL, q_19⟩
                · have hs2 := hb1.mp c_1
                  have hc2 := hb4.mp c_13
                  refine V_aload_n dL_isWindow_264 rfl ?_
                  refine V_bipush dL_isWindow_265 (by decide) ?_
                  refine V_iload dL_isWindow_267 rfl ?_
                  refine V_iadd dL_isWindow_269 ?_
                  refine V_iload_n dL_isWindow_270 rfl ?_
                  refine ls_1 ⟨by omega, by omega⟩ dL_isWindow_271 ?_
                  refine V_aload_n dL_isWindow_272 rfl ?_
                  refine V_bipush dL_isWindow_273 (by decide) ?_
                  refine V_iload dL_isWindow_275 rfl ?_
                  refine V_iadd dL_isWindow_277 ?_
                  refine V_iload dL_isWindow_278 rfl ?_
                  refine ls_1 ⟨by omega, by omega⟩ dL_isWindow_280 ?_
                  refine V_aload_n dL_isWindow_281 rfl ?_
                  refine V_bipush dL_isWindow_282 (by decide) ?_
                  refine V_iload dL_isWindow_284 rfl ?_
                  refine V_iadd dL_isWindow_286 ?_
                  refine V_iload dL_isWindow_287 rfl ?_
                  refine ls_1 ⟨by omega, by omega⟩ dL_isWindow_289 ?_
                  have hM_26 : MI (kp P (one % (P 0 2 + 1)) 1 f1 0) := hM.kp (Or.inr (Or.inl ⟨rfl, by omega, by omega⟩))
                  have hL_27 : LR (kp P (one % (P 0 2 + 1)) 1 f1 0) (up (up (up τ 1 (16 + (one % (P 0 2 + 1))) 1) 1 (20 + (one % (P 0 2 + 1))) f1) 1 (24 + (one % (P 0 2 + 1))) f2) := hL.kpg ⟨by omega, by omega⟩ rfl rfl (fun i a b2_ c_ => by rw [up_eq, fup_ne c_, up_eq, fup_ne b2_, up_eq, fup_ne a]) (by rw [up_eq, fup_ne (by omega), up_eq, fup_ne (by omega), up_eq, fup_eq]) (fun _ => by rw [up_eq, fup_ne (by omega), up_eq, fup_eq]) (fun h => absurd h (by decide))
                  refine V_iload_n dL_isWindow_290 rfl ?_
                  refine V_if_ne (tgt := 301) dL_isWindow_291 (by decide) ⟨by decide, by decide⟩ (fun _ => ?_) (fun h => absurd h (by decide))
                  refine V_iload_n dL_isWindow_301 rfl ?_
                  refine V_iconst dL_isWindow_302 ?_
                  refine V_icmp_ne (tgt := 311) dL_isWindow_303 (by decide) ⟨⟨by decide, by decide⟩, ⟨by decide, by decide⟩⟩ (fun h => absurd h (by decide)) (fun _ => ?_)
                  refine V_iload dL_isWindow_306 rfl ?_
                  refine V_goto (tgt := 326) dL_isWindow_308 (by decide) ?_
                  refine V_istore (L' := [some (.ref (c 0)), some (.ref (b 0)), some (.ref (b 1)), some (.int (zI 1)), some (.int (zI one)), some (.int (zI two)), some (.int (zI (one % (P 0 2 + 1)))), some (.int (zI (bz b1))), some (.int (zI f1)), some (.int (zI f2)), none, none, some (.int (zI (bz b4))), some (.int (zI f1))]) dL_isWindow_326 (by decide) rfl ?_
                  refine V_aload_n dL_isWindow_328 rfl ?_
                  refine V_iload_n dL_isWindow_329 rfl ?_
                  refine V_if_ne (tgt := 338) dL_isWindow_330 (by decide) ⟨by decide, by decide⟩ (fun _ => ?_) (fun h => absurd h (by decide))
                  refine V_bipush dL_isWindow_338 (by decide) ?_
                  refine V_iload_n dL_isWindow_340 rfl ?_
                  refine V_iadd dL_isWindow_341 ?_
                  refine V_eqT (y := zI (7)) rfl ?_
                  refine V_iload dL_isWindow_342 rfl ?_
                  refine V_iload dL_isWindow_344 rfl ?_
                  refine V_iload dL_isWindow_346 rfl ?_
                  refine V_iconst dL_isWindow_348 ?_
                  refine V_iconst dL_isWindow_349 ?_
                  refine V_callSBH (As := [.ref (c 0), .int (zI 7), .int (zI (one % (P 0 2 + 1))), .int (zI f1), .int (zI f2), .int (zI 0), .int (zI 0)]) (wr := (lW b (up (up (up τ 1 (16 + (one % (P 0 2 + 1))) 1) 1 (20 + (one % (P 0 2 + 1))) f1) 1 (24 + (one % (P 0 2 + 1))) f2) Y)) (wc := fm (cO en c κ)) rfl hK (d_7 en c κ (one % (P 0 2 + 1)) f1 f2 0 0 P ⟨hM, hC, ⟨by omega, by omega⟩, ⟨by omega, by omega⟩⟩) mokL_does w507 w508 ⟨Nat.le_of_ble_eq_true rfl, Nat.le_of_ble_eq_true rfl⟩ rfl (Nat.le_of_ble_eq_true rfl) ⟨Nat.le_of_ble_eq_true rfl, Nat.le_of_ble_eq_true rfl⟩ dL_isWindow_350 (fun v w p_31 => ?_)
                  obtain ⟨κ_32, rfl, rfl, q_33⟩ := p_31
                  show V K tL_isWindow 8 50 (lW b (up (up (up τ 1 (16 + (one % (P 0 2 + 1))) 1) 1 (20 + (one % (P 0 2 + 1))) f1) 1 (24 + (one % (P 0 2 + 1))) f2) (Y ++ fm (cO en c κ_32))) _ [.int (zI (dvl (-3000) (-2000) 0 (sp_keepRest P (one % (P 0 2 + 1)) f1)))] 353
                  have e_36 : sp_keepRest P (one % (P 0 2 + 1)) f1 = (0, sz (kp P (one % (P 0 2 + 1)) 1 f1 0) (one % (P 0 2 + 1)), kp P (one % (P 0 2 + 1)) 1 f1 0) := (gd_t ⟨by omega, hb1.mp c_1⟩).trans (gd_t ⟨by omega, by omega⟩)
                  rw [e_36] at q_33
                  refine V_eqT (y := zI (sz (kp P (one % (P 0 2 + 1)) 1 f1 0) (one % (P 0 2 + 1)))) (by rw [e_36]; rfl) ?_
                  show V K tL_isWindow 8 50 (lW b (up (up (up τ 1 (16 + (one % (P 0 2 + 1))) 1) 1 (20 + (one % (P 0 2 + 1))) f1) 1 (24 + (one % (P 0 2 + 1))) f2) (Y ++ fm (cO en c κ_32))) _ [.int (zI (sz (kp P (one % (P 0 2 + 1)) 1 f1 0) (one % (P 0 2 + 1))))] 353
                  have hsz : sz (kp P (one % (P 0 2 + 1)) 1 f1 0) (one % (P 0 2 + 1)) = f1 := by rw [sz_kpw]; rfl
                  refine V_iload dL_isWindow_353 rfl ?_
                  refine V_ifb_ne (tgt := 364) dL_isWindow_355 (by decide) (fun _ => ?_) (fun c_37 => absurd (c_37.symm.trans c_1) (by decide))
                  refine V_iload dL_isWindow_364 rfl ?_
                  refine V_ifb_eq (tgt := 374) dL_isWindow_366 (by decide) (fun c_38 => absurd (c_38.symm.trans c_13) (by decide)) (fun _ => ?_)
                  refine V_iload dL_isWindow_369 rfl ?_
                  refine V_goto (tgt := 377) dL_isWindow_371 (by decide) ?_
                  refine V_icmp_ne (tgt := 384) dL_isWindow_377 (by decide) ⟨by rw [hsz]; exact ⟨by omega, by omega⟩, ⟨by omega, by omega⟩⟩ (fun c_39 => absurd (hsz) c_39) (fun _ => ?_)
                  refine V_iconst dL_isWindow_380 ?_
                  refine V_goto (tgt := 385) dL_isWindow_381 (by decide) ?_
                  show V K tL_isWindow 8 50 _ _ [.int (zI (bz true))] 385
                  refine V_zret hR rfl (Nat.le_of_ble_eq_true rfl) (Nat.le_of_ble_eq_true rfl) dL_isWindow_385 ?_
                  exact ⟨_, _, _, rfl, rfl, hM_26, hL_27, q_33⟩
            refine V_istore (L' := [some (.ref (c 0)), some (.ref (b 0)), some (.ref (b 1)), some (.int (zI 1)), some (.int (zI one)), some (.int (zI two)), some (.int (zI (one % (P 0 2 + 1)))), some (.int (zI (bz b1))), some (.int (zI f1)), some (.int (zI f2)), some (.int (zI (bz b2))), some (.int (zI (bz b3))), none, none]) dL_isWindow_198 (by decide) rfl ?_
            refine V_iload_n dL_isWindow_200 rfl ?_
            refine V_if_eq (tgt := 247) dL_isWindow_201 (by decide) ⟨by decide, by decide⟩ (fun h => absurd h (by decide)) (fun _ => ?_)
            refine V_iload_n dL_isWindow_204 rfl ?_
            refine V_iconst dL_isWindow_205 ?_
            refine V_icmp_ne (tgt := 217) dL_isWindow_206 (by decide) ⟨⟨by decide, by decide⟩, ⟨by decide, by decide⟩⟩ (fun h => absurd h (by decide)) (fun _ => ?_)
            refine V_iload dL_isWindow_209 rfl ?_
            refine V_ifb_eq (tgt := 251) dL_isWindow_211 (by decide) (fun c_42 => ?_) (fun c_42 => ?_)
            · refine V_iconst dL_isWindow_251 ?_
              refine V_mask (L' := [some (.ref (c 0)), some (.ref (b 0)), some (.ref (b 1)), some (.int (zI 1)), some (.int (zI one)), some (.int (zI two)), some (.int (zI (one % (P 0 2 + 1)))), some (.int (zI (bz b1))), some (.int (zI f1)), some (.int (zI f2)), none, none, none, none]) [true, true, true, true, true, true, true, true, true, true, false, false, false, false] rfl ?_
              refine seg_252 false ?_
              · exact ⟨(fun h => nomatch h), fun h => absurd (hb2.mpr h) (by rw [c_42]; decide)⟩
            · refine V_goto (tgt := 247) dL_isWindow_214 (by decide) ?_
              refine V_iconst dL_isWindow_247 ?_
              refine V_goto (tgt := 252) dL_isWindow_248 (by decide) ?_
              refine V_mask (L' := [some (.ref (c 0)), some (.ref (b 0)), some (.ref (b 1)), some (.int (zI 1)), some (.int (zI one)), some (.int (zI two)), some (.int (zI (one % (P 0 2 + 1)))), some (.int (zI (bz b1))), some (.int (zI f1)), some (.int (zI f2)), none, none, none, none]) [true, true, true, true, true, true, true, true, true, true, false, false, false, false] rfl ?_
              refine seg_252 true ?_
              · exact ⟨fun _ => hb2.mp c_42, fun _ => rfl⟩
          refine V_istore (L' := [some (.ref (c 0)), some (.ref (b 0)), some (.ref (b 1)), some (.int (zI 1)), some (.int (zI one)), some (.int (zI two)), some (.int (zI (one % (P 0 2 + 1)))), some (.int (zI (bz b1))), some (.int (zI f1)), some (.int (zI f2)), some (.int (zI (bz b2))), none, none, none]) dL_isWindow_179 (by decide) rfl ?_
          refine V_iload dL_isWindow_181 rfl ?_
          refine V_if_le (tgt := 197) dL_isWindow_183 (by decide) ⟨by omega, by omega⟩ (fun c_43 => ?_) (fun c_43 => ?_)
          · refine V_iconst dL_isWindow_197 ?_
            refine seg_198 false ?_
            · exact ⟨(fun h => nomatch h), fun h => absurd h.1 (by omega)⟩
          · refine V_iload dL_isWindow_186 rfl ?_
            refine V_bipush dL_isWindow_188 (by decide) ?_
            refine V_icmp_ge (tgt := 197) dL_isWindow_190 (by decide) ⟨⟨by omega, by omega⟩, ⟨by omega, by omega⟩⟩ (fun c_44 => ?_) (fun c_44 => ?_)
            · refine V_iconst dL_isWindow_197 ?_
              refine seg_198 false ?_
              · exact ⟨(fun h => nomatch h), fun h => absurd h.2 (by omega)⟩
            · refine V_iconst dL_isWindow_193 ?_
              refine V_goto (tgt := 198) dL_isWindow_194 (by decide) ?_
              refine seg_198 true ?_
              · exact ⟨fun _ => ⟨by omega, by omega⟩, fun _ => rfl⟩
        refine V_istore (L' := [some (.ref (c 0)), some (.ref (b 0)), some (.ref (b 1)), some (.int (zI 1)), some (.int (zI one)), some (.int (zI two)), some (.int (zI (one % (P 0 2 + 1)))), some (.int (zI (bz b1))), some (.int (zI f1)), some (.int (zI f2)), none, none, none, none]) dL_isWindow_160 (by decide) rfl ?_
        refine V_iload dL_isWindow_162 rfl ?_
        refine V_if_le (tgt := 178) dL_isWindow_164 (by decide) ⟨by omega, by omega⟩ (fun c_45 => ?_) (fun c_45 => ?_)
        · refine V_iconst dL_isWindow_178 ?_
          refine seg_179 false ?_
          · exact ⟨(fun h => nomatch h), fun h => absurd h.1 (by omega)⟩
        · refine V_iload dL_isWindow_167 rfl ?_
          refine V_bipush dL_isWindow_169 (by decide) ?_
          refine V_icmp_ge (tgt := 178) dL_isWindow_171 (by decide) ⟨⟨by omega, by omega⟩, ⟨by omega, by omega⟩⟩ (fun c_46 => ?_) (fun c_46 => ?_)
          · refine V_iconst dL_isWindow_178 ?_
            refine seg_179 false ?_
            · exact ⟨(fun h => nomatch h), fun h => absurd h.2 (by omega)⟩
          · refine V_iconst dL_isWindow_174 ?_
            refine V_goto (tgt := 179) dL_isWindow_175 (by decide) ?_
            refine seg_179 true ?_
            · exact ⟨fun _ => ⟨by omega, by omega⟩, fun _ => rfl⟩
      refine V_istore (L' := [some (.ref (c 0)), some (.ref (b 0)), some (.ref (b 1)), some (.int (zI 1)), some (.int (zI one)), some (.int (zI two)), some (.int (zI (one % (P 0 2 + 1)))), some (.int (zI (bz b1))), some (.int (zI f1)), none, none, none, none, none]) dL_isWindow_88 (by decide) rfl ?_
      refine V_iload dL_isWindow_90 rfl ?_
      refine V_bipush dL_isWindow_92 (by decide) ?_
      refine V_idiv dL_isWindow_94 ⟨⟨by omega, by omega⟩, ⟨by omega, by omega⟩, by omega, by omega⟩ ?_
      refine V_bipush dL_isWindow_95 (by decide) ?_
      refine V_iremN dL_isWindow_97 ⟨⟨by omega, by omega⟩, ⟨by omega, by omega⟩, by omega, by omega⟩ ?_
      refine V_if_ne (tgt := 106) dL_isWindow_98 (by decide) ⟨by omega, by omega⟩ (fun c_47 => ?_) (fun c_47 => ?_)
      · refine V_iload dL_isWindow_106 rfl ?_
        refine V_bipush dL_isWindow_108 (by decide) ?_
        refine V_idiv dL_isWindow_110 ⟨⟨by omega, by omega⟩, ⟨by omega, by omega⟩, by omega, by omega⟩ ?_
        refine V_bipush dL_isWindow_111 (by decide) ?_
        refine V_iremN dL_isWindow_113 ⟨⟨by omega, by omega⟩, ⟨by omega, by omega⟩, by omega, by omega⟩ ?_
        refine V_iconst dL_isWindow_114 ?_
        refine V_icmp_ne (tgt := 122) dL_isWindow_115 (by decide) ⟨⟨by omega, by omega⟩, ⟨by omega, by omega⟩⟩ (fun c_48 => ?_) (fun c_48 => ?_)
        · refine V_iload dL_isWindow_122 rfl ?_
          refine V_bipush dL_isWindow_124 (by decide) ?_
          refine V_idiv dL_isWindow_126 ⟨⟨by omega, by omega⟩, ⟨by omega, by omega⟩, by omega, by omega⟩ ?_
          refine V_bipush dL_isWindow_127 (by decide) ?_
          refine V_iremN dL_isWindow_129 ⟨⟨by omega, by omega⟩, ⟨by omega, by omega⟩, by omega, by omega⟩ ?_
          refine V_iconst dL_isWindow_130 ?_
          refine V_icmp_ne (tgt := 149) dL_isWindow_131 (by decide) ⟨⟨by omega, by omega⟩, ⟨by omega, by omega⟩⟩ (fun c_49 => ?_) (fun c_49 => ?_)
          · refine V_iconst dL_isWindow_149 ?_
            refine V_iload dL_isWindow_150 rfl ?_
            refine V_sipush dL_isWindow_152 (by decide) ?_
            refine V_idiv dL_isWindow_155 ⟨⟨by omega, by omega⟩, ⟨by omega, by omega⟩, by omega, by omega⟩ ?_
            refine V_bipush dL_isWindow_156 (by decide) ?_
            refine V_iremN dL_isWindow_158 ⟨⟨by omega, by omega⟩, ⟨by omega, by omega⟩, by omega, by omega⟩ ?_
            refine V_iadd dL_isWindow_159 ?_
            refine seg_160 (1 + ((two / 729) % 9)) ?_
            · omega
          · refine V_iload_n dL_isWindow_134 rfl ?_
            refine V_iconst dL_isWindow_135 ?_
            refine V_icmp_eq (tgt := 149) dL_isWindow_136 (by decide) ⟨⟨by decide, by decide⟩, ⟨by decide, by decide⟩⟩ (fun h => absurd h (by decide)) (fun _ => ?_)
            refine V_iconst dL_isWindow_139 ?_
            refine V_iload dL_isWindow_140 rfl ?_
            refine V_bipush dL_isWindow_142 (by decide) ?_
            refine V_iremN dL_isWindow_144 ⟨⟨by omega, by omega⟩, ⟨by omega, by omega⟩, by omega, by omega⟩ ?_
            refine V_iadd dL_isWindow_145 ?_
            refine V_goto (tgt := 160) dL_isWindow_146 (by decide) ?_
            refine seg_160 (1 + (one % 99)) ?_
            · omega
        · refine V_iconst dL_isWindow_118 ?_
          refine V_goto (tgt := 160) dL_isWindow_119 (by decide) ?_
          refine seg_160 0 ?_
          · omega
      · refine V_bipush dL_isWindow_101 (by decide) ?_
        refine V_goto (tgt := 160) dL_isWindow_103 (by decide) ?_
        refine seg_160 100 ?_
        · omega
    refine V_istore (L' := [some (.ref (c 0)), some (.ref (b 0)), some (.ref (b 1)), some (.int (zI 1)), some (.int (zI one)), some (.int (zI two)), some (.int (zI (one % (P 0 2 + 1)))), some (.int (zI (bz b1))), none, none, none, none, none, none]) dL_isWindow_23 (by decide) rfl ?_
    refine V_iload dL_isWindow_25 rfl ?_
    refine V_bipush dL_isWindow_27 (by decide) ?_
    refine V_iremN dL_isWindow_29 ⟨⟨by omega, by omega⟩, ⟨by omega, by omega⟩, by omega, by omega⟩ ?_
    refine V_if_ne (tgt := 37) dL_isWindow_30 (by decide) ⟨by omega, by omega⟩ (fun c_51 => ?_) (fun c_51 => ?_)
    · refine V_iload dL_isWindow_37 rfl ?_
      refine V_bipush dL_isWindow_39 (by decide) ?_
      refine V_iremN dL_isWindow_41 ⟨⟨by omega, by omega⟩, ⟨by omega, by omega⟩, by omega, by omega⟩ ?_
      refine V_iconst dL_isWindow_42 ?_
      refine V_icmp_ne (tgt := 51) dL_isWindow_43 (by decide) ⟨⟨by omega, by omega⟩, ⟨by omega, by omega⟩⟩ (fun c_52 => ?_) (fun c_52 => ?_)
      · refine V_iload dL_isWindow_51 rfl ?_
        refine V_bipush dL_isWindow_53 (by decide) ?_
        refine V_iremN dL_isWindow_55 ⟨⟨by omega, by omega⟩, ⟨by omega, by omega⟩, by omega, by omega⟩ ?_
        refine V_iconst dL_isWindow_56 ?_
        refine V_icmp_ne (tgt := 78) dL_isWindow_57 (by decide) ⟨⟨by omega, by omega⟩, ⟨by omega, by omega⟩⟩ (fun c_53 => ?_) (fun c_53 => ?_)
        · refine V_iconst dL_isWindow_78 ?_
          refine V_iload dL_isWindow_79 rfl ?_
          refine V_bipush dL_isWindow_81 (by decide) ?_
          refine V_idiv dL_isWindow_83 ⟨⟨by omega, by omega⟩, ⟨by omega, by omega⟩, by omega, by omega⟩ ?_
          refine V_bipush dL_isWindow_84 (by decide) ?_
          refine V_iremN dL_isWindow_86 ⟨⟨by omega, by omega⟩, ⟨by omega, by omega⟩, by omega, by omega⟩ ?_
          refine V_iadd dL_isWindow_87 ?_
          refine seg_88 (1 + ((two / 9) % 9)) ?_
          · omega
        · refine V_iload_n dL_isWindow_60 rfl ?_
          refine V_iconst dL_isWindow_61 ?_
          refine V_icmp_eq (tgt := 78) dL_isWindow_62 (by decide) ⟨⟨by decide, by decide⟩, ⟨by decide, by decide⟩⟩ (fun h => absurd h (by decide)) (fun _ => ?_)
          refine V_iconst dL_isWindow_65 ?_
          refine V_iload dL_isWindow_66 rfl ?_
          refine V_bipush dL_isWindow_68 (by decide) ?_
          refine V_idiv dL_isWindow_70 ⟨⟨by omega, by omega⟩, ⟨by omega, by omega⟩, by omega, by omega⟩ ?_
          refine V_bipush dL_isWindow_71 (by decide) ?_
          refine V_iremN dL_isWindow_73 ⟨⟨by omega, by omega⟩, ⟨by omega, by omega⟩, by omega, by omega⟩ ?_
          refine V_iadd dL_isWindow_74 ?_
          refine V_goto (tgt := 88) dL_isWindow_75 (by decide) ?_
          refine seg_88 (1 + ((two / 9) % 99)) ?_
          · omega
      · refine V_bipush dL_isWindow_46 (by decide) ?_
        refine V_goto (tgt := 88) dL_isWindow_48 (by decide) ?_
        refine seg_88 100 ?_
        · omega
    · refine V_iconst dL_isWindow_33 ?_
      refine V_goto (tgt := 88) dL_isWindow_34 (by decide) ?_
      refine seg_88 0 ?_
      · omega
  refine V_iload dL_isWindow_0 rfl ?_
  refine V_aload_n dL_isWindow_2 rfl ?_
  refine V_iconst dL_isWindow_3 ?_
  refine ll_0 ⟨by omega, by omega⟩ dL_isWindow_4 ?_
  refine V_eqT (y := zI (P 0 2)) (congrArg zI (LR.g2 hL)) ?_
  refine V_iconst dL_isWindow_5 ?_
  refine V_iadd dL_isWindow_6 ?_
  refine V_iremN dL_isWindow_7 ⟨⟨by omega, by omega⟩, ⟨by omega, by omega⟩, by omega, by omega⟩ ?_
  refine V_istore (L' := [some (.ref (c 0)), some (.ref (b 0)), some (.ref (b 1)), some (.int (zI 1)), some (.int (zI one)), some (.int (zI two)), some (.int (zI (one % ((P 0 2) + 1)))), none, none, none, none, none, none, none]) dL_isWindow_8 (by decide) rfl ?_
  refine V_iload dL_isWindow_10 rfl ?_
  refine V_aload_n dL_isWindow_12 rfl ?_
  refine V_iconst dL_isWindow_13 ?_
  refine ll_0 ⟨by omega, by omega⟩ dL_isWindow_14 ?_
  refine V_eqT (y := zI (P 0 2)) (congrArg zI (LR.g2 hL)) ?_
  refine V_icmp_ge (tgt := 22) dL_isWindow_15 (by decide) ⟨⟨by omega, by omega⟩, ⟨by omega, by omega⟩⟩ (fun c_55 => ?_) (fun c_55 => ?_)
  · refine V_iconst dL_isWindow_22 ?_
    refine seg_23 false ?_
    · exact ⟨(fun h => nomatch h), fun h => absurd h (by omega)⟩
  · refine V_iconst dL_isWindow_18 ?_
    refine V_goto (tgt := 23) dL_isWindow_19 (by decide) ?_
    refine seg_23 true ?_
    · exact ⟨fun _ => by omega, fun _ => rfl⟩
set_option maxRecDepth 100000 in
set_option maxHeartbeats 4000000 in
theorem q_isWindow2 (en c b : Nat → Nat) (κ τ : St) (Y : vWd) (one : Int) (two : Int) (P : St) (hp : MI P ∧ LR P τ ∧ CWP P κ ∧ (0 ≤ one ∧ one ≤ 60000) ∧ (0 ≤ two ∧ two ≤ 60000)) : MC (EX en) yL_isWindow tL_isWindow [.ref (c 0), .ref (b 0), .ref (b 1), .int (zI 2), .int (zI one), .int (zI two)] (lW b τ (Y ++ fm (cO en c κ))) (fun v w => ∃ (κ2 : St) (τ2 : St) (P2 : St), v = some (.int (zI (bz true))) ∧ w = (lW b τ2 (Y ++ fm (cO en c κ2))) ∧ (MI P2) ∧ (LR P2 τ2) ∧ (CWP P2 κ2)) := by
  refine MC.of (EX.stb en) [some (.ref (c 0)), some (.ref (b 0)), some (.ref (b 1)), some (.int (zI 2)), some (.int (zI one)), some (.int (zI two)), none, none, none, none, none, none, none, none] 8 rfl rfl rfl (by simp [Value.category]) (Nat.le_of_ble_eq_true rfl) (fun K hK hR => ?_)
  obtain ⟨hM, hL, hC, hp⟩ := hp
  have mR := hM.1
  have mC := hM.2.1
  have mN := hM.2.2.1
  have mp := hM.pts
  have ma := hM.als
  have mV := hM.2.2.2.1
  have mW := hM.2.2.2.2.1
  obtain ⟨hone, htwo⟩ := hp
  have hsm := hL.small hM
  have hsw : 0 ≤ one % (P 0 2 + 1) ∧ one % (P 0 2 + 1) ≤ P 0 2 := by have h1 := Int.emod_nonneg one (b := P 0 2 + 1) (by omega); have h2 := Int.emod_lt_of_pos one (b := P 0 2 + 1) (by omega); omega
  have seg_23 : ∀ (b1 : Bool), (b1 = true ↔ one % (P 0 2 + 1) < P 0 2) → V K tL_isWindow 0 0 (lW b τ (Y ++ fm (cO en c κ))) [some (.ref (c 0)), some (.ref (b 0)), some (.ref (b 1)), some (.int (zI 2)), some (.int (zI one)), some (.int (zI two)), some (.int (zI (one % (P 0 2 + 1)))), none, none, none, none, none, none, none] [.int (zI (bz b1))] 23 := by
    intro b1 hb1
    have seg_88 : ∀ (f1 : Int), (0 ≤ f1 ∧ f1 ≤ 100) → V K tL_isWindow 0 0 (lW b τ (Y ++ fm (cO en c κ))) [some (.ref (c 0)), some (.ref (b 0)), some (.ref (b 1)), some (.int (zI 2)), some (.int (zI one)), some (.int (zI two)), some (.int (zI (one % (P 0 2 + 1)))), some (.int (zI (bz b1))), none, none, none, none, none, none] [.int (zI f1)] 88 := by
      intro f1 hf1
      have seg_160 : ∀ (f2 : Int), (0 ≤ f2 ∧ f2 ≤ 100) → V K tL_isWindow 0 0 (lW b τ (Y ++ fm (cO en c κ))) [some (.ref (c 0)), some (.ref (b 0)), some (.ref (b 1)), some (.int (zI 2)), some (.int (zI one)), some (.int (zI two)), some (.int (zI (one % (P 0 2 + 1)))), some (.int (zI (bz b1))), some (.int (zI f1)), none, none, none, none, none] [.int (zI f2)] 160 := by
        intro f2 hf2
        have seg_179 : ∀ (b2 : Bool), (b2 = true ↔ (0 < f1 ∧ f1 < 100)) → V K tL_isWindow 0 0 (lW b τ (Y ++ fm (cO en c κ))) [some (.ref (c 0)), some (.ref (b 0)), some (.ref (b 1)), some (.int (zI 2)), some (.int (zI one)), some (.int (zI two)), some (.int (zI (one % (P 0 2 + 1)))), some (.int (zI (bz b1))), some (.int (zI f1)), some (.int (zI f2)), none, none, none, none] [.int (zI (bz b2))] 179 := by
          intro b2 hb2
          have seg_198 : ∀ (b3 : Bool), (b3 = true ↔ (0 < f2 ∧ f2 < 100)) → V K tL_isWindow 0 0 (lW b τ (Y ++ fm (cO en c κ))) [some (.ref (c 0)), some (.ref (b 0)), some (.ref (b 1)), some (.int (zI 2)), some (.int (zI one)), some (.int (zI two)), some (.int (zI (one % (P 0 2 + 1)))), some (.int (zI (bz b1))), some (.int (zI f1)), some (.int (zI f2)), some (.int (zI (bz b2))), none, none, none] [.int (zI (bz b3))] 198 := by
            intro b3 hb3
            have seg_252 : ∀ (b4 : Bool), (b4 = true ↔ ((0 < f1 ∧ f1 < 100) ∧ (0 < f2 ∧ f2 < 100))) → V K tL_isWindow 0 0 (lW b τ (Y ++ fm (cO en c κ))) [some (.ref (c 0)), some (.ref (b 0)), some (.ref (b 1)), some (.int (zI 2)), some (.int (zI one)), some (.int (zI two)), some (.int (zI (one % (P 0 2 + 1)))), some (.int (zI (bz b1))), some (.int (zI f1)), some (.int (zI f2)), none, none, none, none] [.int (zI (bz b4))] 252 := by
              intro b4 hb4
              refine V_istore (L' := [some (.ref (c 0)), some (.ref (b 0)), some (.ref (b 1)), some (.int (zI 2)), some (.int (zI one)), some (.int (zI two)), some (.int (zI (one % (P 0 2 + 1)))), some (.int (zI (bz b1))), some (.int (zI f1)), some (.int (zI f2)), none, none, some (.int (zI (bz b4))), none]) dL_isWindow_252 (by decide) rfl ?_
              refine V_iload dL_isWindow_254 rfl ?_
              refine V_ifb_eq (tgt := 290) dL_isWindow_256 (by decide) (fun c_1 => ?_) (fun c_1 => ?_)
              · refine V_iload_n dL_isWindow_290 rfl ?_
                refine V_if_ne (tgt := 301) dL_isWindow_291 (by decide) ⟨by decide, by decide⟩ (fun _ => ?_) (fun h => absurd h (by decide))
                refine V_iload_n dL_isWindow_301 rfl ?_
                refine V_iconst dL_isWindow_302 ?_
                refine V_icmp_ne (tgt := 311) dL_isWindow_303 (by decide) ⟨⟨by decide, by decide⟩, ⟨by decide, by decide⟩⟩ (fun _ => ?_) (fun h => absurd h (by decide))
                refine V_iload_n dL_isWindow_311 rfl ?_
                refine V_iconst dL_isWindow_312 ?_
                refine V_icmp_ne (tgt := 324) dL_isWindow_313 (by decide) ⟨⟨by decide, by decide⟩, ⟨by decide, by decide⟩⟩ (fun h => absurd h (by decide)) (fun _ => ?_)
                refine V_iload dL_isWindow_316 rfl ?_
                refine V_iload dL_isWindow_318 rfl ?_
                refine V_imul dL_isWindow_320 ?_
                refine V_goto (tgt := 326) dL_isWindow_321 (by decide) ?_
                refine V_istore (L' := [some (.ref (c 0)), some (.ref (b 0)), some (.ref (b 1)), some (.int (zI 2)), some (.int (zI one)), some (.int (zI two)), some (.int (zI (one % (P 0 2 + 1)))), some (.int (zI (bz b1))), some (.int (zI f1)), some (.int (zI f2)), none, none, some (.int (zI (bz b4))), some (.int (zI (f1 * f2)))]) dL_isWindow_326 (by decide) rfl ?_
                refine V_aload_n dL_isWindow_328 rfl ?_
                refine V_iload_n dL_isWindow_329 rfl ?_
                refine V_if_ne (tgt := 338) dL_isWindow_330 (by decide) ⟨by decide, by decide⟩ (fun _ => ?_) (fun h => absurd h (by decide))
                refine V_bipush dL_isWindow_338 (by decide) ?_
                refine V_iload_n dL_isWindow_340 rfl ?_
                refine V_iadd dL_isWindow_341 ?_
                refine V_eqT (y := zI (8)) rfl ?_
                refine V_iload dL_isWindow_342 rfl ?_
                refine V_iload dL_isWindow_344 rfl ?_
                refine V_iload dL_isWindow_346 rfl ?_
                refine V_iconst dL_isWindow_348 ?_
                refine V_iconst dL_isWindow_349 ?_
                refine V_callSBH (As := [.ref (c 0), .int (zI 8), .int (zI (one % (P 0 2 + 1))), .int (zI f1), .int (zI f2), .int (zI 0), .int (zI 0)]) (wr := (lW b τ Y)) (wc := fm (cO en c κ)) rfl hK (d_8 en c κ (one % (P 0 2 + 1)) f1 f2 0 0 P ⟨hM, hC, ⟨by omega, by omega⟩, ⟨by omega, by omega⟩, ⟨by omega, by omega⟩⟩) mokL_does w507 w508 ⟨Nat.le_of_ble_eq_true rfl, Nat.le_of_ble_eq_true rfl⟩ rfl (Nat.le_of_ble_eq_true rfl) ⟨Nat.le_of_ble_eq_true rfl, Nat.le_of_ble_eq_true rfl⟩ dL_isWindow_350 (fun v w p_6 => ?_)
                obtain ⟨κ_7, rfl, rfl, q_8⟩ := p_6
                show V K tL_isWindow 8 50 (lW b τ (Y ++ fm (cO en c κ_7))) _ [.int (zI (dvl (-3000) (-2000) 0 (sp_keepTwoRests P (one % (P 0 2 + 1)) f1 f2)))] 353
                have e_11 : sp_keepTwoRests P (one % (P 0 2 + 1)) f1 f2 = (1, 0, P) := gd_f (fun h => by have := hb1.mpr h.2; rw [c_1] at this; exact nomatch this)
                rw [e_11] at q_8
                refine V_eqT (y := zI (-3000)) (by rw [e_11]; rfl) ?_
                show V K tL_isWindow 8 50 (lW b τ (Y ++ fm (cO en c κ_7))) _ [.int (zI (-3000))] 353
                refine V_iload dL_isWindow_353 rfl ?_
                refine V_ifb_ne (tgt := 364) dL_isWindow_355 (by decide) (fun c_12 => absurd (c_12.symm.trans c_1) (by decide)) (fun _ => ?_)
                refine V_sipush dL_isWindow_358 (by decide) ?_
                refine V_goto (tgt := 377) dL_isWindow_361 (by decide) ?_
                refine V_icmp_ne (tgt := 384) dL_isWindow_377 (by decide) ⟨⟨by decide, by decide⟩, ⟨by decide, by decide⟩⟩ (fun h => absurd h (by decide)) (fun _ => ?_)
                refine V_iconst dL_isWindow_380 ?_
                refine V_goto (tgt := 385) dL_isWindow_381 (by decide) ?_
                show V K tL_isWindow 8 50 _ _ [.int (zI (bz true))] 385
                refine V_zret hR rfl (Nat.le_of_ble_eq_true rfl) (Nat.le_of_ble_eq_true rfl) dL_isWindow_385 ?_
                exact ⟨_, _, P, rfl, rfl, hM, hL, q_8⟩
              · refine V_iload dL_isWindow_259 rfl ?_
                refine V_ifb_eq (tgt := 290) dL_isWindow_261 (by decide) (fun c_14 => ?_) (fun c_14 => ?_)
                · refine V_iload_n dL_isWindow_290 rfl ?_
                  refine V_if_ne (tgt := 301) dL_isWindow_291 (by decide) ⟨by decide, by decide⟩ (fun _ => ?_) (fun h => absurd h (by decide))
                  refine V_iload_n dL_isWindow_301 rfl ?_
                  refine V_iconst dL_isWindow_302 ?_
                  refine V_icmp_ne (tgt := 311) dL_isWindow_303 (by decide) ⟨⟨by decide, by decide⟩, ⟨by decide, by decide⟩⟩ (fun _ => ?_) (fun h => absurd h (by decide))
                  refine V_iload_n dL_isWindow_311 rfl ?_
                  refine V_iconst dL_isWindow_312 ?_
                  refine V_icmp_ne (tgt := 324) dL_isWindow_313 (by decide) ⟨⟨by decide, by decide⟩, ⟨by decide, by decide⟩⟩ (fun h => absurd h (by decide)) (fun _ => ?_)
                  refine V_iload dL_isWindow_316 rfl ?_
                  refine V_iload dL_isWindow_318 rfl ?_
                  refine V_imul dL_isWindow_320 ?_
                  refine V_goto (tgt := 326) dL_isWindow_321 (by decide) ?_
                  refine V_istore (L' := [some (.ref (c 0)), some (.ref (b 0)), some (.ref (b 1)), some (.int (zI 2)), some (.int (zI one)), some (.int (zI two)), some (.int (zI (one % (P 0 2 + 1)))), some (.int (zI (bz b1))), some (.int (zI f1)), some (.int (zI f2)), none, none, some (.int (zI (bz b4))), some (.int (zI (f1 * f2)))]) dL_isWindow_326 (by decide) rfl ?_
                  refine V_aload_n dL_isWindow_328 rfl ?_
                  refine V_iload_n dL_isWindow_329 rfl ?_
                  refine V_if_ne (tgt := 338) dL_isWindow_330 (by decide) ⟨by decide, by decide⟩ (fun _ => ?_) (fun h => absurd h (by decide))
                  refine V_bipush dL_isWindow_338 (by decide) ?_
                  refine V_iload_n dL_isWindow_340 rfl ?_
                  refine V_iadd dL_isWindow_341 ?_
                  refine V_eqT (y := zI (8)) rfl ?_
                  refine V_iload dL_isWindow_342 rfl ?_
                  refine V_iload dL_isWindow_344 rfl ?_
                  refine V_iload dL_isWindow_346 rfl ?_
                  refine V_iconst dL_isWindow_348 ?_
                  refine V_iconst dL_isWindow_349 ?_
                  refine V_callSBH (As := [.ref (c 0), .int (zI 8), .int (zI (one % (P 0 2 + 1))), .int (zI f1), .int (zI f2), .int (zI 0), .int (zI 0)]) (wr := (lW b τ Y)) (wc := fm (cO en c κ)) rfl hK (d_8 en c κ (one % (P 0 2 + 1)) f1 f2 0 0 P ⟨hM, hC, ⟨by omega, by omega⟩, ⟨by omega, by omega⟩, ⟨by omega, by omega⟩⟩) mokL_does w507 w508 ⟨Nat.le_of_ble_eq_true rfl, Nat.le_of_ble_eq_true rfl⟩ rfl (Nat.le_of_ble_eq_true rfl) ⟨Nat.le_of_ble_eq_true rfl, Nat.le_of_ble_eq_true rfl⟩ dL_isWindow_350 (fun v w p_19 => ?_)
                  obtain ⟨κ_20, rfl, rfl, q_21⟩ := p_19
                  show V K tL_isWindow 8 50 (lW b τ (Y ++ fm (cO en c κ_20))) _ [.int (zI (dvl (-3000) (-2000) 0 (sp_keepTwoRests P (one % (P 0 2 + 1)) f1 f2)))] 353
                  have e_24 : sp_keepTwoRests P (one % (P 0 2 + 1)) f1 f2 = (2, 0, P) := (gd_t ⟨by omega, hb1.mp c_1⟩).trans (gd_f (fun h => by have := hb4.mpr (by omega); rw [c_14] at this; exact nomatch this))
                  rw [e_24] at q_21
                  refine V_eqT (y := zI (-2000)) (by rw [e_24]; rfl) ?_
                  show V K tL_isWindow 8 50 (lW b τ (Y ++ fm (cO en c κ_20))) _ [.int (zI (-2000))] 353
                  refine V_iload dL_isWindow_353 rfl ?_
                  refine V_ifb_ne (tgt := 364) dL_isWindow_355 (by decide) (fun _ => ?_) (fun c_25 => absurd (c_25.symm.trans c_1) (by decide))
                  refine V_iload dL_isWindow_364 rfl ?_
                  refine V_ifb_eq (tgt := 374) dL_isWindow_366 (by decide) (fun _ => ?_) (fun c_26 => absurd (c_26.symm.trans c_14) (by decide))
                  refine V_sipush dL_isWindow_374 (by decide) ?_
                  refine V_icmp_ne (tgt := 384) dL_isWindow_377 (by decide) ⟨⟨by decide, by decide⟩, ⟨by decide, by decide⟩⟩ (fun h => absurd h (by decide)) (fun _ => ?_)
                  refine V_iconst dL_isWindow_380 ?_
                  refine V_goto (tgt := 385) dL_isWindow_381 (by decide) ?_
                  show V K tL_isWindow 8 50 _ _ [.int (zI (bz true))] 385
                  refine V_zret hR rfl (Nat.le_of_ble_eq_true rfl) (Nat.le_of_ble_eq_true rfl) dL_isWindow_385 ?_
                  exact ⟨_, _, P, rfl, rfl, hM, hL, q_21⟩
                · have hs2 := hb1.mp c_1
                  have hc2 := hb4.mp c_14
                  refine V_aload_n dL_isWindow_264 rfl ?_
                  refine V_bipush dL_isWindow_265 (by decide) ?_
                  refine V_iload dL_isWindow_267 rfl ?_
                  refine V_iadd dL_isWindow_269 ?_
                  refine V_iload_n dL_isWindow_270 rfl ?_
                  refine ls_1 ⟨by omega, by omega⟩ dL_isWindow_271 ?_
                  refine V_aload_n dL_isWindow_272 rfl ?_
                  refine V_bipush dL_isWindow_273 (by decide) ?_
                  refine V_iload dL_isWindow_275 rfl ?_
                  refine V_iadd dL_isWindow_277 ?_
                  refine V_iload dL_isWindow_278 rfl ?_
                  refine ls_1 ⟨by omega, by omega⟩ dL_isWindow_280 ?_
                  refine V_aload_n dL_isWindow_281 rfl ?_
                  refine V_bipush dL_isWindow_282 (by decide) ?_
                  refine V_iload dL_isWindow_284 rfl ?_
                  refine V_iadd dL_isWindow_286 ?_
                  refine V_iload dL_isWindow_287 rfl ?_
                  refine ls_1 ⟨by omega, by omega⟩ dL_isWindow_289 ?_
                  have hM_28 : MI (kp P (one % (P 0 2 + 1)) 2 f1 f2) := hM.kp (Or.inr (Or.inr (Or.inl ⟨rfl, by omega, by omega, by omega, by omega⟩)))
                  have hL_29 : LR (kp P (one % (P 0 2 + 1)) 2 f1 f2) (up (up (up τ 1 (16 + (one % (P 0 2 + 1))) 2) 1 (20 + (one % (P 0 2 + 1))) f1) 1 (24 + (one % (P 0 2 + 1))) f2) := hL.kpg ⟨by omega, by omega⟩ rfl rfl (fun i a b2_ c_ => by rw [up_eq, fup_ne c_, up_eq, fup_ne b2_, up_eq, fup_ne a]) (by rw [up_eq, fup_ne (by omega), up_eq, fup_ne (by omega), up_eq, fup_eq]) (fun _ => by rw [up_eq, fup_ne (by omega), up_eq, fup_eq]) (fun _ => by rw [up_eq, fup_eq])
                  refine V_iload_n dL_isWindow_290 rfl ?_
                  refine V_if_ne (tgt := 301) dL_isWindow_291 (by decide) ⟨by decide, by decide⟩ (fun _ => ?_) (fun h => absurd h (by decide))
                  refine V_iload_n dL_isWindow_301 rfl ?_
                  refine V_iconst dL_isWindow_302 ?_
                  refine V_icmp_ne (tgt := 311) dL_isWindow_303 (by decide) ⟨⟨by decide, by decide⟩, ⟨by decide, by decide⟩⟩ (fun _ => ?_) (fun h => absurd h (by decide))
                  refine V_iload_n dL_isWindow_311 rfl ?_
                  refine V_iconst dL_isWindow_312 ?_
                  refine V_icmp_ne (tgt := 324) dL_isWindow_313 (by decide) ⟨⟨by decide, by decide⟩, ⟨by decide, by decide⟩⟩ (fun h => absurd h (by decide)) (fun _ => ?_)
                  refine V_iload dL_isWindow_316 rfl ?_
                  refine V_iload dL_isWindow_318 rfl ?_
                  refine V_imul dL_isWindow_320 ?_
                  refine V_goto (tgt := 326) dL_isWindow_321 (by decide) ?_
                  refine V_istore (L' := [some (.ref (c 0)), some (.ref (b 0)), some (.ref (b 1)), some (.int (zI 2)), some (.int (zI one)), some (.int (zI two)), some (.int (zI (one % (P 0 2 + 1)))), some (.int (zI (bz b1))), some (.int (zI f1)), some (.int (zI f2)), none, none, some (.int (zI (bz b4))), some (.int (zI (f1 * f2)))]) dL_isWindow_326 (by decide) rfl ?_
                  refine V_aload_n dL_isWindow_328 rfl ?_
                  refine V_iload_n dL_isWindow_329 rfl ?_
                  refine V_if_ne (tgt := 338) dL_isWindow_330 (by decide) ⟨by decide, by decide⟩ (fun _ => ?_) (fun h => absurd h (by decide))
                  refine V_bipush dL_isWindow_338 (by decide) ?_
                  refine V_iload_n dL_isWindow_340 rfl ?_
                  refine V_iadd dL_isWindow_341 ?_
                  refine V_eqT (y := zI (8)) rfl ?_
                  refine V_iload dL_isWindow_342 rfl ?_
                  refine V_iload dL_isWindow_344 rfl ?_
                  refine V_iload dL_isWindow_346 rfl ?_
                  refine V_iconst dL_isWindow_348 ?_
                  refine V_iconst dL_isWindow_349 ?_
                  refine V_callSBH (As := [.ref (c 0), .int (zI 8), .int (zI (one % (P 0 2 + 1))), .int (zI f1), .int (zI f2), .int (zI 0), .int (zI 0)]) (wr := (lW b (up (up (up τ 1 (16 + (one % (P 0 2 + 1))) 2) 1 (20 + (one % (P 0 2 + 1))) f1) 1 (24 + (one % (P 0 2 + 1))) f2) Y)) (wc := fm (cO en c κ)) rfl hK (d_8 en c κ (one % (P 0 2 + 1)) f1 f2 0 0 P ⟨hM, hC, ⟨by omega, by omega⟩, ⟨by omega, by omega⟩, ⟨by omega, by omega⟩⟩) mokL_does w507 w508 ⟨Nat.le_of_ble_eq_true rfl, Nat.le_of_ble_eq_true rfl⟩ rfl (Nat.le_of_ble_eq_true rfl) ⟨Nat.le_of_ble_eq_true rfl, Nat.le_of_ble_eq_true rfl⟩ dL_isWindow_350 (fun v w p_34 => ?_)
                  obtain ⟨κ_35, rfl, rfl, q_36⟩ := p_34
                  show V K tL_isWindow 8 50 (lW b (up (up (up τ 1 (16 + (one % (P 0 2 + 1))) 2) 1 (20 + (one % (P 0 2 + 1))) f1) 1 (24 + (one % (P 0 2 + 1))) f2) (Y ++ fm (cO en c κ_35))) _ [.int (zI (dvl (-3000) (-2000) 0 (sp_keepTwoRests P (one % (P 0 2 + 1)) f1 f2)))] 353
                  have e_39 : sp_keepTwoRests P (one % (P 0 2 + 1)) f1 f2 = (0, sz (kp P (one % (P 0 2 + 1)) 2 f1 f2) (one % (P 0 2 + 1)), kp P (one % (P 0 2 + 1)) 2 f1 f2) := (gd_t ⟨by omega, hb1.mp c_1⟩).trans (gd_t ⟨⟨by omega, by omega⟩, by omega, by omega⟩)
                  rw [e_39] at q_36
                  refine V_eqT (y := zI (sz (kp P (one % (P 0 2 + 1)) 2 f1 f2) (one % (P 0 2 + 1)))) (by rw [e_39]; rfl) ?_
                  show V K tL_isWindow 8 50 (lW b (up (up (up τ 1 (16 + (one % (P 0 2 + 1))) 2) 1 (20 + (one % (P 0 2 + 1))) f1) 1 (24 + (one % (P 0 2 + 1))) f2) (Y ++ fm (cO en c κ_35))) _ [.int (zI (sz (kp P (one % (P 0 2 + 1)) 2 f1 f2) (one % (P 0 2 + 1))))] 353
                  have hsz : sz (kp P (one % (P 0 2 + 1)) 2 f1 f2) (one % (P 0 2 + 1)) = f1 * f2 := by rw [sz_kpw]; rfl
                  have hm12 := mulB (a := f1) (b := f2) (A := 100) (B := 100) hf1.1 hf1.2 hf2.1 hf2.2
                  refine V_iload dL_isWindow_353 rfl ?_
                  refine V_ifb_ne (tgt := 364) dL_isWindow_355 (by decide) (fun _ => ?_) (fun c_40 => absurd (c_40.symm.trans c_1) (by decide))
                  refine V_iload dL_isWindow_364 rfl ?_
                  refine V_ifb_eq (tgt := 374) dL_isWindow_366 (by decide) (fun c_41 => absurd (c_41.symm.trans c_14) (by decide)) (fun _ => ?_)
                  refine V_iload dL_isWindow_369 rfl ?_
                  refine V_goto (tgt := 377) dL_isWindow_371 (by decide) ?_
                  refine V_icmp_ne (tgt := 384) dL_isWindow_377 (by decide) ⟨by rw [hsz]; exact ⟨by omega, by omega⟩, ⟨by omega, by omega⟩⟩ (fun c_42 => absurd (hsz) c_42) (fun _ => ?_)
                  refine V_iconst dL_isWindow_380 ?_
                  refine V_goto (tgt := 385) dL_isWindow_381 (by decide) ?_
                  show V K tL_isWindow 8 50 _ _ [.int (zI (bz true))] 385
                  refine V_zret hR rfl (Nat.le_of_ble_eq_true rfl) (Nat.le_of_ble_eq_true rfl) dL_isWindow_385 ?_
                  exact ⟨_, _, _, rfl, rfl, hM_28, hL_29, q_36⟩
            refine V_istore (L' := [some (.ref (c 0)), some (.ref (b 0)), some (.ref (b 1)), some (.int (zI 2)), some (.int (zI one)), some (.int (zI two)), some (.int (zI (one % (P 0 2 + 1)))), some (.int (zI (bz b1))), some (.int (zI f1)), some (.int (zI f2)), some (.int (zI (bz b2))), some (.int (zI (bz b3))), none, none]) dL_isWindow_198 (by decide) rfl ?_
            refine V_iload_n dL_isWindow_200 rfl ?_
            refine V_if_eq (tgt := 247) dL_isWindow_201 (by decide) ⟨by decide, by decide⟩ (fun h => absurd h (by decide)) (fun _ => ?_)
            refine V_iload_n dL_isWindow_204 rfl ?_
            refine V_iconst dL_isWindow_205 ?_
            refine V_icmp_ne (tgt := 217) dL_isWindow_206 (by decide) ⟨⟨by decide, by decide⟩, ⟨by decide, by decide⟩⟩ (fun _ => ?_) (fun h => absurd h (by decide))
            refine V_iload_n dL_isWindow_217 rfl ?_
            refine V_iconst dL_isWindow_218 ?_
            refine V_icmp_ne (tgt := 235) dL_isWindow_219 (by decide) ⟨⟨by decide, by decide⟩, ⟨by decide, by decide⟩⟩ (fun h => absurd h (by decide)) (fun _ => ?_)
            refine V_iload dL_isWindow_222 rfl ?_
            refine V_ifb_eq (tgt := 251) dL_isWindow_224 (by decide) (fun c_46 => ?_) (fun c_46 => ?_)
            · refine V_iconst dL_isWindow_251 ?_
              refine V_mask (L' := [some (.ref (c 0)), some (.ref (b 0)), some (.ref (b 1)), some (.int (zI 2)), some (.int (zI one)), some (.int (zI two)), some (.int (zI (one % (P 0 2 + 1)))), some (.int (zI (bz b1))), some (.int (zI f1)), some (.int (zI f2)), none, none, none, none]) [true, true, true, true, true, true, true, true, true, true, false, false, false, false] rfl ?_
              refine seg_252 false ?_
              · exact ⟨(fun h => nomatch h), fun h => absurd (hb2.mpr h.1) (by rw [c_46]; decide)⟩
            · refine V_iload dL_isWindow_227 rfl ?_
              refine V_ifb_eq (tgt := 251) dL_isWindow_229 (by decide) (fun c_47 => ?_) (fun c_47 => ?_)
              · refine V_iconst dL_isWindow_251 ?_
                refine V_mask (L' := [some (.ref (c 0)), some (.ref (b 0)), some (.ref (b 1)), some (.int (zI 2)), some (.int (zI one)), some (.int (zI two)), some (.int (zI (one % (P 0 2 + 1)))), some (.int (zI (bz b1))), some (.int (zI f1)), some (.int (zI f2)), none, none, none, none]) [true, true, true, true, true, true, true, true, true, true, false, false, false, false] rfl ?_
                refine seg_252 false ?_
                · exact ⟨(fun h => nomatch h), fun h => absurd (hb3.mpr h.2) (by rw [c_47]; decide)⟩
              · refine V_goto (tgt := 247) dL_isWindow_232 (by decide) ?_
                refine V_iconst dL_isWindow_247 ?_
                refine V_goto (tgt := 252) dL_isWindow_248 (by decide) ?_
                refine V_mask (L' := [some (.ref (c 0)), some (.ref (b 0)), some (.ref (b 1)), some (.int (zI 2)), some (.int (zI one)), some (.int (zI two)), some (.int (zI (one % (P 0 2 + 1)))), some (.int (zI (bz b1))), some (.int (zI f1)), some (.int (zI f2)), none, none, none, none]) [true, true, true, true, true, true, true, true, true, true, false, false, false, false] rfl ?_
                refine seg_252 true ?_
                · exact ⟨fun _ => ⟨hb2.mp c_46, hb3.mp c_47⟩, fun _ => rfl⟩
          refine V_istore (L' := [some (.ref (c 0)), some (.ref (b 0)), some (.ref (b 1)), some (.int (zI 2)), some (.int (zI one)), some (.int (zI two)), some (.int (zI (one % (P 0 2 + 1)))), some (.int (zI (bz b1))), some (.int (zI f1)), some (.int (zI f2)), some (.int (zI (bz b2))), none, none, none]) dL_isWindow_179 (by decide) rfl ?_
          refine V_iload dL_isWindow_181 rfl ?_
          refine V_if_le (tgt := 197) dL_isWindow_183 (by decide) ⟨by omega, by omega⟩ (fun c_48 => ?_) (fun c_48 => ?_)
          · refine V_iconst dL_isWindow_197 ?_
            refine seg_198 false ?_
            · exact ⟨(fun h => nomatch h), fun h => absurd h.1 (by omega)⟩
          · refine V_iload dL_isWindow_186 rfl ?_
            refine V_bipush dL_isWindow_188 (by decide) ?_
            refine V_icmp_ge (tgt := 197) dL_isWindow_190 (by decide) ⟨⟨by omega, by omega⟩, ⟨by omega, by omega⟩⟩ (fun c_49 => ?_) (fun c_49 => ?_)
            · refine V_iconst dL_isWindow_197 ?_
              refine seg_198 false ?_
              · exact ⟨(fun h => nomatch h), fun h => absurd h.2 (by omega)⟩
            · refine V_iconst dL_isWindow_193 ?_
              refine V_goto (tgt := 198) dL_isWindow_194 (by decide) ?_
              refine seg_198 true ?_
              · exact ⟨fun _ => ⟨by omega, by omega⟩, fun _ => rfl⟩
        refine V_istore (L' := [some (.ref (c 0)), some (.ref (b 0)), some (.ref (b 1)), some (.int (zI 2)), some (.int (zI one)), some (.int (zI two)), some (.int (zI (one % (P 0 2 + 1)))), some (.int (zI (bz b1))), some (.int (zI f1)), some (.int (zI f2)), none, none, none, none]) dL_isWindow_160 (by decide) rfl ?_
        refine V_iload dL_isWindow_162 rfl ?_
        refine V_if_le (tgt := 178) dL_isWindow_164 (by decide) ⟨by omega, by omega⟩ (fun c_50 => ?_) (fun c_50 => ?_)
        · refine V_iconst dL_isWindow_178 ?_
          refine seg_179 false ?_
          · exact ⟨(fun h => nomatch h), fun h => absurd h.1 (by omega)⟩
        · refine V_iload dL_isWindow_167 rfl ?_
          refine V_bipush dL_isWindow_169 (by decide) ?_
          refine V_icmp_ge (tgt := 178) dL_isWindow_171 (by decide) ⟨⟨by omega, by omega⟩, ⟨by omega, by omega⟩⟩ (fun c_51 => ?_) (fun c_51 => ?_)
          · refine V_iconst dL_isWindow_178 ?_
            refine seg_179 false ?_
            · exact ⟨(fun h => nomatch h), fun h => absurd h.2 (by omega)⟩
          · refine V_iconst dL_isWindow_174 ?_
            refine V_goto (tgt := 179) dL_isWindow_175 (by decide) ?_
            refine seg_179 true ?_
            · exact ⟨fun _ => ⟨by omega, by omega⟩, fun _ => rfl⟩
      refine V_istore (L' := [some (.ref (c 0)), some (.ref (b 0)), some (.ref (b 1)), some (.int (zI 2)), some (.int (zI one)), some (.int (zI two)), some (.int (zI (one % (P 0 2 + 1)))), some (.int (zI (bz b1))), some (.int (zI f1)), none, none, none, none, none]) dL_isWindow_88 (by decide) rfl ?_
      refine V_iload dL_isWindow_90 rfl ?_
      refine V_bipush dL_isWindow_92 (by decide) ?_
      refine V_idiv dL_isWindow_94 ⟨⟨by omega, by omega⟩, ⟨by omega, by omega⟩, by omega, by omega⟩ ?_
      refine V_bipush dL_isWindow_95 (by decide) ?_
      refine V_iremN dL_isWindow_97 ⟨⟨by omega, by omega⟩, ⟨by omega, by omega⟩, by omega, by omega⟩ ?_
      refine V_if_ne (tgt := 106) dL_isWindow_98 (by decide) ⟨by omega, by omega⟩ (fun c_52 => ?_) (fun c_52 => ?_)
      · refine V_iload dL_isWindow_106 rfl ?_
        refine V_bipush dL_isWindow_108 (by decide) ?_
        refine V_idiv dL_isWindow_110 ⟨⟨by omega, by omega⟩, ⟨by omega, by omega⟩, by omega, by omega⟩ ?_
        refine V_bipush dL_isWindow_111 (by decide) ?_
        refine V_iremN dL_isWindow_113 ⟨⟨by omega, by omega⟩, ⟨by omega, by omega⟩, by omega, by omega⟩ ?_
        refine V_iconst dL_isWindow_114 ?_
        refine V_icmp_ne (tgt := 122) dL_isWindow_115 (by decide) ⟨⟨by omega, by omega⟩, ⟨by omega, by omega⟩⟩ (fun c_53 => ?_) (fun c_53 => ?_)
        · refine V_iload dL_isWindow_122 rfl ?_
          refine V_bipush dL_isWindow_124 (by decide) ?_
          refine V_idiv dL_isWindow_126 ⟨⟨by omega, by omega⟩, ⟨by omega, by omega⟩, by omega, by omega⟩ ?_
          refine V_bipush dL_isWindow_127 (by decide) ?_
          refine V_iremN dL_isWindow_129 ⟨⟨by omega, by omega⟩, ⟨by omega, by omega⟩, by omega, by omega⟩ ?_
          refine V_iconst dL_isWindow_130 ?_
          refine V_icmp_ne (tgt := 149) dL_isWindow_131 (by decide) ⟨⟨by omega, by omega⟩, ⟨by omega, by omega⟩⟩ (fun c_54 => ?_) (fun c_54 => ?_)
          · refine V_iconst dL_isWindow_149 ?_
            refine V_iload dL_isWindow_150 rfl ?_
            refine V_sipush dL_isWindow_152 (by decide) ?_
            refine V_idiv dL_isWindow_155 ⟨⟨by omega, by omega⟩, ⟨by omega, by omega⟩, by omega, by omega⟩ ?_
            refine V_bipush dL_isWindow_156 (by decide) ?_
            refine V_iremN dL_isWindow_158 ⟨⟨by omega, by omega⟩, ⟨by omega, by omega⟩, by omega, by omega⟩ ?_
            refine V_iadd dL_isWindow_159 ?_
            refine seg_160 (1 + ((two / 729) % 9)) ?_
            · omega
          · refine V_iload_n dL_isWindow_134 rfl ?_
            refine V_iconst dL_isWindow_135 ?_
            refine V_icmp_eq (tgt := 149) dL_isWindow_136 (by decide) ⟨⟨by decide, by decide⟩, ⟨by decide, by decide⟩⟩ (fun _ => ?_) (fun h => absurd h (by decide))
            refine V_iconst dL_isWindow_149 ?_
            refine V_iload dL_isWindow_150 rfl ?_
            refine V_sipush dL_isWindow_152 (by decide) ?_
            refine V_idiv dL_isWindow_155 ⟨⟨by omega, by omega⟩, ⟨by omega, by omega⟩, by omega, by omega⟩ ?_
            refine V_bipush dL_isWindow_156 (by decide) ?_
            refine V_iremN dL_isWindow_158 ⟨⟨by omega, by omega⟩, ⟨by omega, by omega⟩, by omega, by omega⟩ ?_
            refine V_iadd dL_isWindow_159 ?_
            refine seg_160 (1 + ((two / 729) % 9)) ?_
            · omega
        · refine V_iconst dL_isWindow_118 ?_
          refine V_goto (tgt := 160) dL_isWindow_119 (by decide) ?_
          refine seg_160 0 ?_
          · omega
      · refine V_bipush dL_isWindow_101 (by decide) ?_
        refine V_goto (tgt := 160) dL_isWindow_103 (by decide) ?_
        refine seg_160 100 ?_
        · omega
    refine V_istore (L' := [some (.ref (c 0)), some (.ref (b 0)), some (.ref (b 1)), some (.int (zI 2)), some (.int (zI one)), some (.int (zI two)), some (.int (zI (one % (P 0 2 + 1)))), some (.int (zI (bz b1))), none, none, none, none, none, none]) dL_isWindow_23 (by decide) rfl ?_
    refine V_iload dL_isWindow_25 rfl ?_
    refine V_bipush dL_isWindow_27 (by decide) ?_
    refine V_iremN dL_isWindow_29 ⟨⟨by omega, by omega⟩, ⟨by omega, by omega⟩, by omega, by omega⟩ ?_
    refine V_if_ne (tgt := 37) dL_isWindow_30 (by decide) ⟨by omega, by omega⟩ (fun c_56 => ?_) (fun c_56 => ?_)
    · refine V_iload dL_isWindow_37 rfl ?_
      refine V_bipush dL_isWindow_39 (by decide) ?_
      refine V_iremN dL_isWindow_41 ⟨⟨by omega, by omega⟩, ⟨by omega, by omega⟩, by omega, by omega⟩ ?_
      refine V_iconst dL_isWindow_42 ?_
      refine V_icmp_ne (tgt := 51) dL_isWindow_43 (by decide) ⟨⟨by omega, by omega⟩, ⟨by omega, by omega⟩⟩ (fun c_57 => ?_) (fun c_57 => ?_)
      · refine V_iload dL_isWindow_51 rfl ?_
        refine V_bipush dL_isWindow_53 (by decide) ?_
        refine V_iremN dL_isWindow_55 ⟨⟨by omega, by omega⟩, ⟨by omega, by omega⟩, by omega, by omega⟩ ?_
        refine V_iconst dL_isWindow_56 ?_
        refine V_icmp_ne (tgt := 78) dL_isWindow_57 (by decide) ⟨⟨by omega, by omega⟩, ⟨by omega, by omega⟩⟩ (fun c_58 => ?_) (fun c_58 => ?_)
        · refine V_iconst dL_isWindow_78 ?_
          refine V_iload dL_isWindow_79 rfl ?_
          refine V_bipush dL_isWindow_81 (by decide) ?_
          refine V_idiv dL_isWindow_83 ⟨⟨by omega, by omega⟩, ⟨by omega, by omega⟩, by omega, by omega⟩ ?_
          refine V_bipush dL_isWindow_84 (by decide) ?_
          refine V_iremN dL_isWindow_86 ⟨⟨by omega, by omega⟩, ⟨by omega, by omega⟩, by omega, by omega⟩ ?_
          refine V_iadd dL_isWindow_87 ?_
          refine seg_88 (1 + ((two / 9) % 9)) ?_
          · omega
        · refine V_iload_n dL_isWindow_60 rfl ?_
          refine V_iconst dL_isWindow_61 ?_
          refine V_icmp_eq (tgt := 78) dL_isWindow_62 (by decide) ⟨⟨by decide, by decide⟩, ⟨by decide, by decide⟩⟩ (fun _ => ?_) (fun h => absurd h (by decide))
          refine V_iconst dL_isWindow_78 ?_
          refine V_iload dL_isWindow_79 rfl ?_
          refine V_bipush dL_isWindow_81 (by decide) ?_
          refine V_idiv dL_isWindow_83 ⟨⟨by omega, by omega⟩, ⟨by omega, by omega⟩, by omega, by omega⟩ ?_
          refine V_bipush dL_isWindow_84 (by decide) ?_
          refine V_iremN dL_isWindow_86 ⟨⟨by omega, by omega⟩, ⟨by omega, by omega⟩, by omega, by omega⟩ ?_
          refine V_iadd dL_isWindow_87 ?_
          refine seg_88 (1 + ((two / 9) % 9)) ?_
          · omega
      · refine V_bipush dL_isWindow_46 (by decide) ?_
        refine V_goto (tgt := 88) dL_isWindow_48 (by decide) ?_
        refine seg_88 100 ?_
        · omega
    · refine V_iconst dL_isWindow_33 ?_
      refine V_goto (tgt := 88) dL_isWindow_34 (by decide) ?_
      refine seg_88 0 ?_
      · omega
  refine V_iload dL_isWindow_0 rfl ?_
  refine V_aload_n dL_isWindow_2 rfl ?_
  refine V_iconst dL_isWindow_3 ?_
  refine ll_0 ⟨by omega, by omega⟩ dL_isWindow_4 ?_
  refine V_eqT (y := zI (P 0 2)) (congrArg zI (LR.g2 hL)) ?_
  refine V_iconst dL_isWindow_5 ?_
  refine V_iadd dL_isWindow_6 ?_
  refine V_iremN dL_isWindow_7 ⟨⟨by omega, by omega⟩, ⟨by omega, by omega⟩, by omega, by omega⟩ ?_
  refine V_istore (L' := [some (.ref (c 0)), some (.ref (b 0)), some (.ref (b 1)), some (.int (zI 2)), some (.int (zI one)), some (.int (zI two)), some (.int (zI (one % ((P 0 2) + 1)))), none, none, none, none, none, none, none]) dL_isWindow_8 (by decide) rfl ?_
  refine V_iload dL_isWindow_10 rfl ?_
  refine V_aload_n dL_isWindow_12 rfl ?_
  refine V_iconst dL_isWindow_13 ?_
  refine ll_0 ⟨by omega, by omega⟩ dL_isWindow_14 ?_
  refine V_eqT (y := zI (P 0 2)) (congrArg zI (LR.g2 hL)) ?_
  refine V_icmp_ge (tgt := 22) dL_isWindow_15 (by decide) ⟨⟨by omega, by omega⟩, ⟨by omega, by omega⟩⟩ (fun c_60 => ?_) (fun c_60 => ?_)
  · refine V_iconst dL_isWindow_22 ?_
    refine seg_23 false ?_
    · exact ⟨(fun h => nomatch h), fun h => absurd h (by omega)⟩
  · refine V_iconst dL_isWindow_18 ?_
    refine V_goto (tgt := 23) dL_isWindow_19 (by decide) ?_
    refine seg_23 true ?_
    · exact ⟨fun _ => by omega, fun _ => rfl⟩
set_option maxRecDepth 100000 in
set_option maxHeartbeats 4000000 in
theorem q_isWindow3 (en c b : Nat → Nat) (κ τ : St) (Y : vWd) (one : Int) (two : Int) (P : St) (hp : MI P ∧ LR P τ ∧ CWP P κ ∧ (0 ≤ one ∧ one ≤ 60000) ∧ (0 ≤ two ∧ two ≤ 60000)) : MC (EX en) yL_isWindow tL_isWindow [.ref (c 0), .ref (b 0), .ref (b 1), .int (zI 3), .int (zI one), .int (zI two)] (lW b τ (Y ++ fm (cO en c κ))) (fun v w => ∃ (κ2 : St) (τ2 : St) (P2 : St), v = some (.int (zI (bz true))) ∧ w = (lW b τ2 (Y ++ fm (cO en c κ2))) ∧ (MI P2) ∧ (LR P2 τ2) ∧ (CWP P2 κ2)) := by
  refine MC.of (EX.stb en) [some (.ref (c 0)), some (.ref (b 0)), some (.ref (b 1)), some (.int (zI 3)), some (.int (zI one)), some (.int (zI two)), none, none, none, none, none, none, none, none] 8 rfl rfl rfl (by simp [Value.category]) (Nat.le_of_ble_eq_true rfl) (fun K hK hR => ?_)
  obtain ⟨hM, hL, hC, hp⟩ := hp
  have mR := hM.1
  have mC := hM.2.1
  have mN := hM.2.2.1
  have mp := hM.pts
  have ma := hM.als
  have mV := hM.2.2.2.1
  have mW := hM.2.2.2.2.1
  obtain ⟨hone, htwo⟩ := hp
  have hsm := hL.small hM
  have hsw : 0 ≤ one % (P 0 2 + 1) ∧ one % (P 0 2 + 1) ≤ P 0 2 := by have h1 := Int.emod_nonneg one (b := P 0 2 + 1) (by omega); have h2 := Int.emod_lt_of_pos one (b := P 0 2 + 1) (by omega); omega
  have seg_23 : ∀ (b1 : Bool), (b1 = true ↔ one % (P 0 2 + 1) < P 0 2) → V K tL_isWindow 0 0 (lW b τ (Y ++ fm (cO en c κ))) [some (.ref (c 0)), some (.ref (b 0)), some (.ref (b 1)), some (.int (zI 3)), some (.int (zI one)), some (.int (zI two)), some (.int (zI (one % (P 0 2 + 1)))), none, none, none, none, none, none, none] [.int (zI (bz b1))] 23 := by
    intro b1 hb1
    have seg_88 : ∀ (f1 : Int), (0 ≤ f1 ∧ f1 ≤ 100) → V K tL_isWindow 0 0 (lW b τ (Y ++ fm (cO en c κ))) [some (.ref (c 0)), some (.ref (b 0)), some (.ref (b 1)), some (.int (zI 3)), some (.int (zI one)), some (.int (zI two)), some (.int (zI (one % (P 0 2 + 1)))), some (.int (zI (bz b1))), none, none, none, none, none, none] [.int (zI f1)] 88 := by
      intro f1 hf1
      have seg_160 : ∀ (f2 : Int), (0 ≤ f2 ∧ f2 ≤ 100) → V K tL_isWindow 0 0 (lW b τ (Y ++ fm (cO en c κ))) [some (.ref (c 0)), some (.ref (b 0)), some (.ref (b 1)), some (.int (zI 3)), some (.int (zI one)), some (.int (zI two)), some (.int (zI (one % (P 0 2 + 1)))), some (.int (zI (bz b1))), some (.int (zI f1)), none, none, none, none, none] [.int (zI f2)] 160 := by
        intro f2 hf2
        have seg_179 : ∀ (b2 : Bool), (b2 = true ↔ (0 < f1 ∧ f1 < 100)) → V K tL_isWindow 0 0 (lW b τ (Y ++ fm (cO en c κ))) [some (.ref (c 0)), some (.ref (b 0)), some (.ref (b 1)), some (.int (zI 3)), some (.int (zI one)), some (.int (zI two)), some (.int (zI (one % (P 0 2 + 1)))), some (.int (zI (bz b1))), some (.int (zI f1)), some (.int (zI f2)), none, none, none, none] [.int (zI (bz b2))] 179 := by
          intro b2 hb2
          have seg_198 : ∀ (b3 : Bool), (b3 = true ↔ (0 < f2 ∧ f2 < 100)) → V K tL_isWindow 0 0 (lW b τ (Y ++ fm (cO en c κ))) [some (.ref (c 0)), some (.ref (b 0)), some (.ref (b 1)), some (.int (zI 3)), some (.int (zI one)), some (.int (zI two)), some (.int (zI (one % (P 0 2 + 1)))), some (.int (zI (bz b1))), some (.int (zI f1)), some (.int (zI f2)), some (.int (zI (bz b2))), none, none, none] [.int (zI (bz b3))] 198 := by
            intro b3 hb3
            have seg_252 : ∀ (b4 : Bool), (b4 = true ↔ (f1 < 10 ∧ (0 < f2 ∧ f2 < 100))) → V K tL_isWindow 0 0 (lW b τ (Y ++ fm (cO en c κ))) [some (.ref (c 0)), some (.ref (b 0)), some (.ref (b 1)), some (.int (zI 3)), some (.int (zI one)), some (.int (zI two)), some (.int (zI (one % (P 0 2 + 1)))), some (.int (zI (bz b1))), some (.int (zI f1)), some (.int (zI f2)), none, none, none, none] [.int (zI (bz b4))] 252 := by
              intro b4 hb4
              refine V_istore (L' := [some (.ref (c 0)), some (.ref (b 0)), some (.ref (b 1)), some (.int (zI 3)), some (.int (zI one)), some (.int (zI two)), some (.int (zI (one % (P 0 2 + 1)))), some (.int (zI (bz b1))), some (.int (zI f1)), some (.int (zI f2)), none, none, some (.int (zI (bz b4))), none]) dL_isWindow_252 (by decide) rfl ?_
              refine V_iload dL_isWindow_254 rfl ?_
              refine V_ifb_eq (tgt := 290) dL_isWindow_256 (by decide) (fun c_1 => ?_) (fun c_1 => ?_)
              · refine V_iload_n dL_isWindow_290 rfl ?_
                refine V_if_ne (tgt := 301) dL_isWindow_291 (by decide) ⟨by decide, by decide⟩ (fun _ => ?_) (fun h => absurd h (by decide))
                refine V_iload_n dL_isWindow_301 rfl ?_
                refine V_iconst dL_isWindow_302 ?_
                refine V_icmp_ne (tgt := 311) dL_isWindow_303 (by decide) ⟨⟨by decide, by decide⟩, ⟨by decide, by decide⟩⟩ (fun _ => ?_) (fun h => absurd h (by decide))
                refine V_iload_n dL_isWindow_311 rfl ?_
                refine V_iconst dL_isWindow_312 ?_
                refine V_icmp_ne (tgt := 324) dL_isWindow_313 (by decide) ⟨⟨by decide, by decide⟩, ⟨by decide, by decide⟩⟩ (fun _ => ?_) (fun h => absurd h (by decide))
                refine V_iload dL_isWindow_324 rfl ?_
                refine V_istore (L' := [some (.ref (c 0)), some (.ref (b 0)), some (.ref (b 1)), some (.int (zI 3)), some (.int (zI one)), some (.int (zI two)), some (.int (zI (one % (P 0 2 + 1)))), some (.int (zI (bz b1))), some (.int (zI f1)), some (.int (zI f2)), none, none, some (.int (zI (bz b4))), some (.int (zI f2))]) dL_isWindow_326 (by decide) rfl ?_
                refine V_aload_n dL_isWindow_328 rfl ?_
                refine V_iload_n dL_isWindow_329 rfl ?_
                refine V_if_ne (tgt := 338) dL_isWindow_330 (by decide) ⟨by decide, by decide⟩ (fun _ => ?_) (fun h => absurd h (by decide))
                refine V_bipush dL_isWindow_338 (by decide) ?_
                refine V_iload_n dL_isWindow_340 rfl ?_
                refine V_iadd dL_isWindow_341 ?_
                refine V_eqT (y := zI (9)) rfl ?_
                refine V_iload dL_isWindow_342 rfl ?_
                refine V_iload dL_isWindow_344 rfl ?_
                refine V_iload dL_isWindow_346 rfl ?_
                refine V_iconst dL_isWindow_348 ?_
                refine V_iconst dL_isWindow_349 ?_
                refine V_callSBH (As := [.ref (c 0), .int (zI 9), .int (zI (one % (P 0 2 + 1))), .int (zI f1), .int (zI f2), .int (zI 0), .int (zI 0)]) (wr := (lW b τ Y)) (wc := fm (cO en c κ)) rfl hK (d_9 en c κ (one % (P 0 2 + 1)) f1 f2 0 0 P ⟨hM, hC, ⟨by omega, by omega⟩, ⟨by omega, by omega⟩, ⟨by omega, by omega⟩⟩) mokL_does w507 w508 ⟨Nat.le_of_ble_eq_true rfl, Nat.le_of_ble_eq_true rfl⟩ rfl (Nat.le_of_ble_eq_true rfl) ⟨Nat.le_of_ble_eq_true rfl, Nat.le_of_ble_eq_true rfl⟩ dL_isWindow_350 (fun v w p_6 => ?_)
                obtain ⟨κ_7, rfl, rfl, q_8⟩ := p_6
                show V K tL_isWindow 8 50 (lW b τ (Y ++ fm (cO en c κ_7))) _ [.int (zI (dvl (-3000) (-2000) 0 (sp_keepSlant P (one % (P 0 2 + 1)) f1 f2)))] 353
                have e_11 : sp_keepSlant P (one % (P 0 2 + 1)) f1 f2 = (1, 0, P) := gd_f (fun h => by have := hb1.mpr h.2; rw [c_1] at this; exact nomatch this)
                rw [e_11] at q_8
                refine V_eqT (y := zI (-3000)) (by rw [e_11]; rfl) ?_
                show V K tL_isWindow 8 50 (lW b τ (Y ++ fm (cO en c κ_7))) _ [.int (zI (-3000))] 353
                refine V_iload dL_isWindow_353 rfl ?_
                refine V_ifb_ne (tgt := 364) dL_isWindow_355 (by decide) (fun c_12 => absurd (c_12.symm.trans c_1) (by decide)) (fun _ => ?_)
                refine V_sipush dL_isWindow_358 (by decide) ?_
                refine V_goto (tgt := 377) dL_isWindow_361 (by decide) ?_
                refine V_icmp_ne (tgt := 384) dL_isWindow_377 (by decide) ⟨⟨by decide, by decide⟩, ⟨by decide, by decide⟩⟩ (fun h => absurd h (by decide)) (fun _ => ?_)
                refine V_iconst dL_isWindow_380 ?_
                refine V_goto (tgt := 385) dL_isWindow_381 (by decide) ?_
                show V K tL_isWindow 8 50 _ _ [.int (zI (bz true))] 385
                refine V_zret hR rfl (Nat.le_of_ble_eq_true rfl) (Nat.le_of_ble_eq_true rfl) dL_isWindow_385 ?_
                exact ⟨_, _, P, rfl, rfl, hM, hL, q_8⟩
              · refine V_iload dL_isWindow_259 rfl ?_
                refine V_ifb_eq (tgt := 290) dL_isWindow_261 (by decide) (fun c_14 => ?_) (fun c_14 => ?_)
                · refine V_iload_n dL_isWindow_290 rfl ?_
                  refine V_if_ne (tgt := 301) dL_isWindow_291 (by decide) ⟨by decide, by decide⟩ (fun _ => ?_) (fun h => absurd h (by decide))
                  refine V_iload_n dL_isWindow_301 rfl ?_
                  refine V_iconst dL_isWindow_302 ?_
                  refine V_icmp_ne (tgt := 311) dL_isWindow_303 (by decide) ⟨⟨by decide, by decide⟩, ⟨by decide, by decide⟩⟩ (fun _ => ?_) (fun h => absurd h (by decide))
                  refine V_iload_n dL_isWindow_311 rfl ?_
                  refine V_iconst dL_isWindow_312 ?_
                  refine V_icmp_ne (tgt := 324) dL_isWindow_313 (by decide) ⟨⟨by decide, by decide⟩, ⟨by decide, by decide⟩⟩ (fun _ => ?_) (fun h => absurd h (by decide))
                  refine V_iload dL_isWindow_324 rfl ?_
                  refine V_istore (L' := [some (.ref (c 0)), some (.ref (b 0)), some (.ref (b 1)), some (.int (zI 3)), some (.int (zI one)), some (.int (zI two)), some (.int (zI (one % (P 0 2 + 1)))), some (.int (zI (bz b1))), some (.int (zI f1)), some (.int (zI f2)), none, none, some (.int (zI (bz b4))), some (.int (zI f2))]) dL_isWindow_326 (by decide) rfl ?_
                  refine V_aload_n dL_isWindow_328 rfl ?_
                  refine V_iload_n dL_isWindow_329 rfl ?_
                  refine V_if_ne (tgt := 338) dL_isWindow_330 (by decide) ⟨by decide, by decide⟩ (fun _ => ?_) (fun h => absurd h (by decide))
                  refine V_bipush dL_isWindow_338 (by decide) ?_
                  refine V_iload_n dL_isWindow_340 rfl ?_
                  refine V_iadd dL_isWindow_341 ?_
                  refine V_eqT (y := zI (9)) rfl ?_
                  refine V_iload dL_isWindow_342 rfl ?_
                  refine V_iload dL_isWindow_344 rfl ?_
                  refine V_iload dL_isWindow_346 rfl ?_
                  refine V_iconst dL_isWindow_348 ?_
                  refine V_iconst dL_isWindow_349 ?_
                  refine V_callSBH (As := [.ref (c 0), .int (zI 9), .int (zI (one % (P 0 2 + 1))), .int (zI f1), .int (zI f2), .int (zI 0), .int (zI 0)]) (wr := (lW b τ Y)) (wc := fm (cO en c κ)) rfl hK (d_9 en c κ (one % (P 0 2 + 1)) f1 f2 0 0 P ⟨hM, hC, ⟨by omega, by omega⟩, ⟨by omega, by omega⟩, ⟨by omega, by omega⟩⟩) mokL_does w507 w508 ⟨Nat.le_of_ble_eq_true rfl, Nat.le_of_ble_eq_true rfl⟩ rfl (Nat.le_of_ble_eq_true rfl) ⟨Nat.le_of_ble_eq_true rfl, Nat.le_of_ble_eq_true rfl⟩ dL_isWindow_350 (fun v w p_19 => ?_)
                  obtain ⟨κ_20, rfl, rfl, q_21⟩ := p_19
                  show V K tL_isWindow 8 50 (lW b τ (Y ++ fm (cO en c κ_20))) _ [.int (zI (dvl (-3000) (-2000) 0 (sp_keepSlant P (one % (P 0 2 + 1)) f1 f2)))] 353
                  have e_24 : sp_keepSlant P (one % (P 0 2 + 1)) f1 f2 = (2, 0, P) := (gd_t ⟨by omega, hb1.mp c_1⟩).trans (gd_f (fun h => by have := hb4.mpr (by omega); rw [c_14] at this; exact nomatch this))
                  rw [e_24] at q_21
                  refine V_eqT (y := zI (-2000)) (by rw [e_24]; rfl) ?_
                  show V K tL_isWindow 8 50 (lW b τ (Y ++ fm (cO en c κ_20))) _ [.int (zI (-2000))] 353
                  refine V_iload dL_isWindow_353 rfl ?_
                  refine V_ifb_ne (tgt := 364) dL_isWindow_355 (by decide) (fun _ => ?_) (fun c_25 => absurd (c_25.symm.trans c_1) (by decide))
                  refine V_iload dL_isWindow_364 rfl ?_
                  refine V_ifb_eq (tgt := 374) dL_isWindow_366 (by decide) (fun _ => ?_) (fun c_26 => absurd (c_26.symm.trans c_14) (by decide))
                  refine V_sipush dL_isWindow_374 (by decide) ?_
                  refine V_icmp_ne (tgt := 384) dL_isWindow_377 (by decide) ⟨⟨by decide, by decide⟩, ⟨by decide, by decide⟩⟩ (fun h => absurd h (by decide)) (fun _ => ?_)
                  refine V_iconst dL_isWindow_380 ?_
                  refine V_goto (tgt := 385) dL_isWindow_381 (by decide) ?_
                  show V K tL_isWindow 8 50 _ _ [.int (zI (bz true))] 385
                  refine V_zret hR rfl (Nat.le_of_ble_eq_true rfl) (Nat.le_of_ble_eq_true rfl) dL_isWindow_385 ?_
                  exact ⟨_, _, P, rfl, rfl, hM, hL, q_21⟩
                · have hs2 := hb1.mp c_1
                  have hc2 := hb4.mp c_14
                  refine V_aload_n dL_isWindow_264 rfl ?_
                  refine V_bipush dL_isWindow_265 (by decide) ?_
                  refine V_iload dL_isWindow_267 rfl ?_
                  refine V_iadd dL_isWindow_269 ?_
                  refine V_iload_n dL_isWindow_270 rfl ?_
                  refine ls_1 ⟨by omega, by omega⟩ dL_isWindow_271 ?_
                  refine V_aload_n dL_isWindow_272 rfl ?_
                  refine V_bipush dL_isWindow_273 (by decide) ?_
                  refine V_iload dL_isWindow_275 rfl ?_
                  refine V_iadd dL_isWindow_277 ?_
                  refine V_iload dL_isWindow_278 rfl ?_
                  refine ls_1 ⟨by omega, by omega⟩ dL_isWindow_280 ?_
                  refine V_aload_n dL_isWindow_281 rfl ?_
                  refine V_bipush dL_isWindow_282 (by decide) ?_
                  refine V_iload dL_isWindow_284 rfl ?_
                  refine V_iadd dL_isWindow_286 ?_
                  refine V_iload dL_isWindow_287 rfl ?_
                  refine ls_1 ⟨by omega, by omega⟩ dL_isWindow_289 ?_
                  have hM_28 : MI (kp P (one % (P 0 2 + 1)) 3 f1 f2) := hM.kp (Or.inr (Or.inr (Or.inr ⟨rfl, by omega, by omega, by omega, by omega⟩)))
                  have hL_29 : LR (kp P (one % (P 0 2 + 1)) 3 f1 f2) (up (up (up τ 1 (16 + (one % (P 0 2 + 1))) 3) 1 (20 + (one % (P 0 2 + 1))) f1) 1 (24 + (one % (P 0 2 + 1))) f2) := hL.kpg ⟨by omega, by omega⟩ rfl rfl (fun i a b2_ c_ => by rw [up_eq, fup_ne c_, up_eq, fup_ne b2_, up_eq, fup_ne a]) (by rw [up_eq, fup_ne (by omega), up_eq, fup_ne (by omega), up_eq, fup_eq]) (fun _ => by rw [up_eq, fup_ne (by omega), up_eq, fup_eq]) (fun _ => by rw [up_eq, fup_eq])
                  refine V_iload_n dL_isWindow_290 rfl ?_
                  refine V_if_ne (tgt := 301) dL_isWindow_291 (by decide) ⟨by decide, by decide⟩ (fun _ => ?_) (fun h => absurd h (by decide))
                  refine V_iload_n dL_isWindow_301 rfl ?_
                  refine V_iconst dL_isWindow_302 ?_
                  refine V_icmp_ne (tgt := 311) dL_isWindow_303 (by decide) ⟨⟨by decide, by decide⟩, ⟨by decide, by decide⟩⟩ (fun _ => ?_) (fun h => absurd h (by decide))
                  refine V_iload_n dL_isWindow_311 rfl ?_
                  refine V_iconst dL_isWindow_312 ?_
                  refine V_icmp_ne (tgt := 324) dL_isWindow_313 (by decide) ⟨⟨by decide, by decide⟩, ⟨by decide, by decide⟩⟩ (fun _ => ?_) (fun h => absurd h (by decide))
                  refine V_iload dL_isWindow_324 rfl ?_
                  refine V_istore (L' := [some (.ref (c 0)), some (.ref (b 0)), some (.ref (b 1)), some (.int (zI 3)), some (.int (zI one)), some (.int (zI two)), some (.int (zI (one % (P 0 2 + 1)))), some (.int (zI (bz b1))), some (.int (zI f1)), some (.int (zI f2)), none, none, some (.int (zI (bz b4))), some (.int (zI f2))]) dL_isWindow_326 (by decide) rfl ?_
                  refine V_aload_n dL_isWindow_328 rfl ?_
                  refine V_iload_n dL_isWindow_329 rfl ?_
                  refine V_if_ne (tgt := 338) dL_isWindow_330 (by decide) ⟨by decide, by decide⟩ (fun _ => ?_) (fun h => absurd h (by decide))
                  refine V_bipush dL_isWindow_338 (by decide) ?_
                  refine V_iload_n dL_isWindow_340 rfl ?_
                  refine V_iadd dL_isWindow_341 ?_
                  refine V_eqT (y := zI (9)) rfl ?_
                  refine V_iload dL_isWindow_342 rfl ?_
                  refine V_iload dL_isWindow_344 rfl ?_
                  refine V_iload dL_isWindow_346 rfl ?_
                  refine V_iconst dL_isWindow_348 ?_
                  refine V_iconst dL_isWindow_349 ?_
                  refine V_callSBH (As := [.ref (c 0), .int (zI 9), .int (zI (one % (P 0 2 + 1))), .int (zI f1), .int (zI f2), .int (zI 0), .int (zI 0)]) (wr := (lW b (up (up (up τ 1 (16 + (one % (P 0 2 + 1))) 3) 1 (20 + (one % (P 0 2 + 1))) f1) 1 (24 + (one % (P 0 2 + 1))) f2) Y)) (wc := fm (cO en c κ)) rfl hK (d_9 en c κ (one % (P 0 2 + 1)) f1 f2 0 0 P ⟨hM, hC, ⟨by omega, by omega⟩, ⟨by omega, by omega⟩, ⟨by omega, by omega⟩⟩) mokL_does w507 w508 ⟨Nat.le_of_ble_eq_true rfl, Nat.le_of_ble_eq_true rfl⟩ rfl (Nat.le_of_ble_eq_true rfl) ⟨Nat.le_of_ble_eq_true rfl, Nat.le_of_ble_eq_true rfl⟩ dL_isWindow_350 (fun v w p_34 => ?_)
                  obtain ⟨κ_35, rfl, rfl, q_36⟩ := p_34
                  show V K tL_isWindow 8 50 (lW b (up (up (up τ 1 (16 + (one % (P 0 2 + 1))) 3) 1 (20 + (one % (P 0 2 + 1))) f1) 1 (24 + (one % (P 0 2 + 1))) f2) (Y ++ fm (cO en c κ_35))) _ [.int (zI (dvl (-3000) (-2000) 0 (sp_keepSlant P (one % (P 0 2 + 1)) f1 f2)))] 353
                  have e_39 : sp_keepSlant P (one % (P 0 2 + 1)) f1 f2 = (0, sz (kp P (one % (P 0 2 + 1)) 3 f1 f2) (one % (P 0 2 + 1)), kp P (one % (P 0 2 + 1)) 3 f1 f2) := (gd_t ⟨by omega, hb1.mp c_1⟩).trans (gd_t ⟨⟨by omega, by omega⟩, by omega, by omega⟩)
                  rw [e_39] at q_36
                  refine V_eqT (y := zI (sz (kp P (one % (P 0 2 + 1)) 3 f1 f2) (one % (P 0 2 + 1)))) (by rw [e_39]; rfl) ?_
                  show V K tL_isWindow 8 50 (lW b (up (up (up τ 1 (16 + (one % (P 0 2 + 1))) 3) 1 (20 + (one % (P 0 2 + 1))) f1) 1 (24 + (one % (P 0 2 + 1))) f2) (Y ++ fm (cO en c κ_35))) _ [.int (zI (sz (kp P (one % (P 0 2 + 1)) 3 f1 f2) (one % (P 0 2 + 1))))] 353
                  have hsz : sz (kp P (one % (P 0 2 + 1)) 3 f1 f2) (one % (P 0 2 + 1)) = f2 := by rw [sz_kpw]; rfl
                  refine V_iload dL_isWindow_353 rfl ?_
                  refine V_ifb_ne (tgt := 364) dL_isWindow_355 (by decide) (fun _ => ?_) (fun c_40 => absurd (c_40.symm.trans c_1) (by decide))
                  refine V_iload dL_isWindow_364 rfl ?_
                  refine V_ifb_eq (tgt := 374) dL_isWindow_366 (by decide) (fun c_41 => absurd (c_41.symm.trans c_14) (by decide)) (fun _ => ?_)
                  refine V_iload dL_isWindow_369 rfl ?_
                  refine V_goto (tgt := 377) dL_isWindow_371 (by decide) ?_
                  refine V_icmp_ne (tgt := 384) dL_isWindow_377 (by decide) ⟨by rw [hsz]; exact ⟨by omega, by omega⟩, ⟨by omega, by omega⟩⟩ (fun c_42 => absurd (hsz) c_42) (fun _ => ?_)
                  refine V_iconst dL_isWindow_380 ?_
                  refine V_goto (tgt := 385) dL_isWindow_381 (by decide) ?_
                  show V K tL_isWindow 8 50 _ _ [.int (zI (bz true))] 385
                  refine V_zret hR rfl (Nat.le_of_ble_eq_true rfl) (Nat.le_of_ble_eq_true rfl) dL_isWindow_385 ?_
                  exact ⟨_, _, _, rfl, rfl, hM_28, hL_29, q_36⟩
            refine V_istore (L' := [some (.ref (c 0)), some (.ref (b 0)), some (.ref (b 1)), some (.int (zI 3)), some (.int (zI one)), some (.int (zI two)), some (.int (zI (one % (P 0 2 + 1)))), some (.int (zI (bz b1))), some (.int (zI f1)), some (.int (zI f2)), some (.int (zI (bz b2))), some (.int (zI (bz b3))), none, none]) dL_isWindow_198 (by decide) rfl ?_
            refine V_iload_n dL_isWindow_200 rfl ?_
            refine V_if_eq (tgt := 247) dL_isWindow_201 (by decide) ⟨by decide, by decide⟩ (fun h => absurd h (by decide)) (fun _ => ?_)
            refine V_iload_n dL_isWindow_204 rfl ?_
            refine V_iconst dL_isWindow_205 ?_
            refine V_icmp_ne (tgt := 217) dL_isWindow_206 (by decide) ⟨⟨by decide, by decide⟩, ⟨by decide, by decide⟩⟩ (fun _ => ?_) (fun h => absurd h (by decide))
            refine V_iload_n dL_isWindow_217 rfl ?_
            refine V_iconst dL_isWindow_218 ?_
            refine V_icmp_ne (tgt := 235) dL_isWindow_219 (by decide) ⟨⟨by decide, by decide⟩, ⟨by decide, by decide⟩⟩ (fun _ => ?_) (fun h => absurd h (by decide))
            refine V_iload dL_isWindow_235 rfl ?_
            refine V_bipush dL_isWindow_237 (by decide) ?_
            refine V_icmp_ge (tgt := 251) dL_isWindow_239 (by decide) ⟨⟨by omega, by omega⟩, ⟨by omega, by omega⟩⟩ (fun c_46 => ?_) (fun c_46 => ?_)
            · refine V_iconst dL_isWindow_251 ?_
              refine V_mask (L' := [some (.ref (c 0)), some (.ref (b 0)), some (.ref (b 1)), some (.int (zI 3)), some (.int (zI one)), some (.int (zI two)), some (.int (zI (one % (P 0 2 + 1)))), some (.int (zI (bz b1))), some (.int (zI f1)), some (.int (zI f2)), none, none, none, none]) [true, true, true, true, true, true, true, true, true, true, false, false, false, false] rfl ?_
              refine seg_252 false ?_
              · exact ⟨(fun h => nomatch h), fun h => absurd h.1 (by omega)⟩
            · refine V_iload dL_isWindow_242 rfl ?_
              refine V_ifb_eq (tgt := 251) dL_isWindow_244 (by decide) (fun c_47 => ?_) (fun c_47 => ?_)
              · refine V_iconst dL_isWindow_251 ?_
                refine V_mask (L' := [some (.ref (c 0)), some (.ref (b 0)), some (.ref (b 1)), some (.int (zI 3)), some (.int (zI one)), some (.int (zI two)), some (.int (zI (one % (P 0 2 + 1)))), some (.int (zI (bz b1))), some (.int (zI f1)), some (.int (zI f2)), none, none, none, none]) [true, true, true, true, true, true, true, true, true, true, false, false, false, false] rfl ?_
                refine seg_252 false ?_
                · exact ⟨(fun h => nomatch h), fun h => absurd (hb3.mpr h.2) (by rw [c_47]; decide)⟩
              · refine V_iconst dL_isWindow_247 ?_
                refine V_goto (tgt := 252) dL_isWindow_248 (by decide) ?_
                refine V_mask (L' := [some (.ref (c 0)), some (.ref (b 0)), some (.ref (b 1)), some (.int (zI 3)), some (.int (zI one)), some (.int (zI two)), some (.int (zI (one % (P 0 2 + 1)))), some (.int (zI (bz b1))), some (.int (zI f1)), some (.int (zI f2)), none, none, none, none]) [true, true, true, true, true, true, true, true, true, true, false, false, false, false] rfl ?_
                refine seg_252 true ?_
                · exact ⟨fun _ => ⟨c_46, hb3.mp c_47⟩, fun _ => rfl⟩
          refine V_istore (L' := [some (.ref (c 0)), some (.ref (b 0)), some (.ref (b 1)), some (.int (zI 3)), some (.int (zI one)), some (.int (zI two)), some (.int (zI (one % (P 0 2 + 1)))), some (.int (zI (bz b1))), some (.int (zI f1)), some (.int (zI f2)), some (.int (zI (bz b2))), none, none, none]) dL_isWindow_179 (by decide) rfl ?_
          refine V_iload dL_isWindow_181 rfl ?_
          refine V_if_le (tgt := 197) dL_isWindow_183 (by decide) ⟨by omega, by omega⟩ (fun c_48 => ?_) (fun c_48 => ?_)
          · refine V_iconst dL_isWindow_197 ?_
            refine seg_198 false ?_
            · exact ⟨(fun h => nomatch h), fun h => absurd h.1 (by omega)⟩
          · refine V_iload dL_isWindow_186 rfl ?_
            refine V_bipush dL_isWindow_188 (by decide) ?_
            refine V_icmp_ge (tgt := 197) dL_isWindow_190 (by decide) ⟨⟨by omega, by omega⟩, ⟨by omega, by omega⟩⟩ (fun c_49 => ?_) (fun c_49 => ?_)
            · refine V_iconst dL_isWindow_197 ?_
              refine seg_198 false ?_
              · exact ⟨(fun h => nomatch h), fun h => absurd h.2 (by omega)⟩
            · refine V_iconst dL_isWindow_193 ?_
              refine V_goto (tgt := 198) dL_isWindow_194 (by decide) ?_
              refine seg_198 true ?_
              · exact ⟨fun _ => ⟨by omega, by omega⟩, fun _ => rfl⟩
        refine V_istore (L' := [some (.ref (c 0)), some (.ref (b 0)), some (.ref (b 1)), some (.int (zI 3)), some (.int (zI one)), some (.int (zI two)), some (.int (zI (one % (P 0 2 + 1)))), some (.int (zI (bz b1))), some (.int (zI f1)), some (.int (zI f2)), none, none, none, none]) dL_isWindow_160 (by decide) rfl ?_
        refine V_iload dL_isWindow_162 rfl ?_
        refine V_if_le (tgt := 178) dL_isWindow_164 (by decide) ⟨by omega, by omega⟩ (fun c_50 => ?_) (fun c_50 => ?_)
        · refine V_iconst dL_isWindow_178 ?_
          refine seg_179 false ?_
          · exact ⟨(fun h => nomatch h), fun h => absurd h.1 (by omega)⟩
        · refine V_iload dL_isWindow_167 rfl ?_
          refine V_bipush dL_isWindow_169 (by decide) ?_
          refine V_icmp_ge (tgt := 178) dL_isWindow_171 (by decide) ⟨⟨by omega, by omega⟩, ⟨by omega, by omega⟩⟩ (fun c_51 => ?_) (fun c_51 => ?_)
          · refine V_iconst dL_isWindow_178 ?_
            refine seg_179 false ?_
            · exact ⟨(fun h => nomatch h), fun h => absurd h.2 (by omega)⟩
          · refine V_iconst dL_isWindow_174 ?_
            refine V_goto (tgt := 179) dL_isWindow_175 (by decide) ?_
            refine seg_179 true ?_
            · exact ⟨fun _ => ⟨by omega, by omega⟩, fun _ => rfl⟩
      refine V_istore (L' := [some (.ref (c 0)), some (.ref (b 0)), some (.ref (b 1)), some (.int (zI 3)), some (.int (zI one)), some (.int (zI two)), some (.int (zI (one % (P 0 2 + 1)))), some (.int (zI (bz b1))), some (.int (zI f1)), none, none, none, none, none]) dL_isWindow_88 (by decide) rfl ?_
      refine V_iload dL_isWindow_90 rfl ?_
      refine V_bipush dL_isWindow_92 (by decide) ?_
      refine V_idiv dL_isWindow_94 ⟨⟨by omega, by omega⟩, ⟨by omega, by omega⟩, by omega, by omega⟩ ?_
      refine V_bipush dL_isWindow_95 (by decide) ?_
      refine V_iremN dL_isWindow_97 ⟨⟨by omega, by omega⟩, ⟨by omega, by omega⟩, by omega, by omega⟩ ?_
      refine V_if_ne (tgt := 106) dL_isWindow_98 (by decide) ⟨by omega, by omega⟩ (fun c_52 => ?_) (fun c_52 => ?_)
      · refine V_iload dL_isWindow_106 rfl ?_
        refine V_bipush dL_isWindow_108 (by decide) ?_
        refine V_idiv dL_isWindow_110 ⟨⟨by omega, by omega⟩, ⟨by omega, by omega⟩, by omega, by omega⟩ ?_
        refine V_bipush dL_isWindow_111 (by decide) ?_
        refine V_iremN dL_isWindow_113 ⟨⟨by omega, by omega⟩, ⟨by omega, by omega⟩, by omega, by omega⟩ ?_
        refine V_iconst dL_isWindow_114 ?_
        refine V_icmp_ne (tgt := 122) dL_isWindow_115 (by decide) ⟨⟨by omega, by omega⟩, ⟨by omega, by omega⟩⟩ (fun c_53 => ?_) (fun c_53 => ?_)
        · refine V_iload dL_isWindow_122 rfl ?_
          refine V_bipush dL_isWindow_124 (by decide) ?_
          refine V_idiv dL_isWindow_126 ⟨⟨by omega, by omega⟩, ⟨by omega, by omega⟩, by omega, by omega⟩ ?_
          refine V_bipush dL_isWindow_127 (by decide) ?_
          refine V_iremN dL_isWindow_129 ⟨⟨by omega, by omega⟩, ⟨by omega, by omega⟩, by omega, by omega⟩ ?_
          refine V_iconst dL_isWindow_130 ?_
          refine V_icmp_ne (tgt := 149) dL_isWindow_131 (by decide) ⟨⟨by omega, by omega⟩, ⟨by omega, by omega⟩⟩ (fun c_54 => ?_) (fun c_54 => ?_)
          · refine V_iconst dL_isWindow_149 ?_
            refine V_iload dL_isWindow_150 rfl ?_
            refine V_sipush dL_isWindow_152 (by decide) ?_
            refine V_idiv dL_isWindow_155 ⟨⟨by omega, by omega⟩, ⟨by omega, by omega⟩, by omega, by omega⟩ ?_
            refine V_bipush dL_isWindow_156 (by decide) ?_
            refine V_iremN dL_isWindow_158 ⟨⟨by omega, by omega⟩, ⟨by omega, by omega⟩, by omega, by omega⟩ ?_
            refine V_iadd dL_isWindow_159 ?_
            refine seg_160 (1 + ((two / 729) % 9)) ?_
            · omega
          · refine V_iload_n dL_isWindow_134 rfl ?_
            refine V_iconst dL_isWindow_135 ?_
            refine V_icmp_eq (tgt := 149) dL_isWindow_136 (by decide) ⟨⟨by decide, by decide⟩, ⟨by decide, by decide⟩⟩ (fun h => absurd h (by decide)) (fun _ => ?_)
            refine V_iconst dL_isWindow_139 ?_
            refine V_iload dL_isWindow_140 rfl ?_
            refine V_bipush dL_isWindow_142 (by decide) ?_
            refine V_iremN dL_isWindow_144 ⟨⟨by omega, by omega⟩, ⟨by omega, by omega⟩, by omega, by omega⟩ ?_
            refine V_iadd dL_isWindow_145 ?_
            refine V_goto (tgt := 160) dL_isWindow_146 (by decide) ?_
            refine seg_160 (1 + (one % 99)) ?_
            · omega
        · refine V_iconst dL_isWindow_118 ?_
          refine V_goto (tgt := 160) dL_isWindow_119 (by decide) ?_
          refine seg_160 0 ?_
          · omega
      · refine V_bipush dL_isWindow_101 (by decide) ?_
        refine V_goto (tgt := 160) dL_isWindow_103 (by decide) ?_
        refine seg_160 100 ?_
        · omega
    refine V_istore (L' := [some (.ref (c 0)), some (.ref (b 0)), some (.ref (b 1)), some (.int (zI 3)), some (.int (zI one)), some (.int (zI two)), some (.int (zI (one % (P 0 2 + 1)))), some (.int (zI (bz b1))), none, none, none, none, none, none]) dL_isWindow_23 (by decide) rfl ?_
    refine V_iload dL_isWindow_25 rfl ?_
    refine V_bipush dL_isWindow_27 (by decide) ?_
    refine V_iremN dL_isWindow_29 ⟨⟨by omega, by omega⟩, ⟨by omega, by omega⟩, by omega, by omega⟩ ?_
    refine V_if_ne (tgt := 37) dL_isWindow_30 (by decide) ⟨by omega, by omega⟩ (fun c_56 => ?_) (fun c_56 => ?_)
    · refine V_iload dL_isWindow_37 rfl ?_
      refine V_bipush dL_isWindow_39 (by decide) ?_
      refine V_iremN dL_isWindow_41 ⟨⟨by omega, by omega⟩, ⟨by omega, by omega⟩, by omega, by omega⟩ ?_
      refine V_iconst dL_isWindow_42 ?_
      refine V_icmp_ne (tgt := 51) dL_isWindow_43 (by decide) ⟨⟨by omega, by omega⟩, ⟨by omega, by omega⟩⟩ (fun c_57 => ?_) (fun c_57 => ?_)
      · refine V_iload dL_isWindow_51 rfl ?_
        refine V_bipush dL_isWindow_53 (by decide) ?_
        refine V_iremN dL_isWindow_55 ⟨⟨by omega, by omega⟩, ⟨by omega, by omega⟩, by omega, by omega⟩ ?_
        refine V_iconst dL_isWindow_56 ?_
        refine V_icmp_ne (tgt := 78) dL_isWindow_57 (by decide) ⟨⟨by omega, by omega⟩, ⟨by omega, by omega⟩⟩ (fun c_58 => ?_) (fun c_58 => ?_)
        · refine V_iconst dL_isWindow_78 ?_
          refine V_iload dL_isWindow_79 rfl ?_
          refine V_bipush dL_isWindow_81 (by decide) ?_
          refine V_idiv dL_isWindow_83 ⟨⟨by omega, by omega⟩, ⟨by omega, by omega⟩, by omega, by omega⟩ ?_
          refine V_bipush dL_isWindow_84 (by decide) ?_
          refine V_iremN dL_isWindow_86 ⟨⟨by omega, by omega⟩, ⟨by omega, by omega⟩, by omega, by omega⟩ ?_
          refine V_iadd dL_isWindow_87 ?_
          refine seg_88 (1 + ((two / 9) % 9)) ?_
          · omega
        · refine V_iload_n dL_isWindow_60 rfl ?_
          refine V_iconst dL_isWindow_61 ?_
          refine V_icmp_eq (tgt := 78) dL_isWindow_62 (by decide) ⟨⟨by decide, by decide⟩, ⟨by decide, by decide⟩⟩ (fun h => absurd h (by decide)) (fun _ => ?_)
          refine V_iconst dL_isWindow_65 ?_
          refine V_iload dL_isWindow_66 rfl ?_
          refine V_bipush dL_isWindow_68 (by decide) ?_
          refine V_idiv dL_isWindow_70 ⟨⟨by omega, by omega⟩, ⟨by omega, by omega⟩, by omega, by omega⟩ ?_
          refine V_bipush dL_isWindow_71 (by decide) ?_
          refine V_iremN dL_isWindow_73 ⟨⟨by omega, by omega⟩, ⟨by omega, by omega⟩, by omega, by omega⟩ ?_
          refine V_iadd dL_isWindow_74 ?_
          refine V_goto (tgt := 88) dL_isWindow_75 (by decide) ?_
          refine seg_88 (1 + ((two / 9) % 99)) ?_
          · omega
      · refine V_bipush dL_isWindow_46 (by decide) ?_
        refine V_goto (tgt := 88) dL_isWindow_48 (by decide) ?_
        refine seg_88 100 ?_
        · omega
    · refine V_iconst dL_isWindow_33 ?_
      refine V_goto (tgt := 88) dL_isWindow_34 (by decide) ?_
      refine seg_88 0 ?_
      · omega
  refine V_iload dL_isWindow_0 rfl ?_
  refine V_aload_n dL_isWindow_2 rfl ?_
  refine V_iconst dL_isWindow_3 ?_
  refine ll_0 ⟨by omega, by omega⟩ dL_isWindow_4 ?_
  refine V_eqT (y := zI (P 0 2)) (congrArg zI (LR.g2 hL)) ?_
  refine V_iconst dL_isWindow_5 ?_
  refine V_iadd dL_isWindow_6 ?_
  refine V_iremN dL_isWindow_7 ⟨⟨by omega, by omega⟩, ⟨by omega, by omega⟩, by omega, by omega⟩ ?_
  refine V_istore (L' := [some (.ref (c 0)), some (.ref (b 0)), some (.ref (b 1)), some (.int (zI 3)), some (.int (zI one)), some (.int (zI two)), some (.int (zI (one % ((P 0 2) + 1)))), none, none, none, none, none, none, none]) dL_isWindow_8 (by decide) rfl ?_
  refine V_iload dL_isWindow_10 rfl ?_
  refine V_aload_n dL_isWindow_12 rfl ?_
  refine V_iconst dL_isWindow_13 ?_
  refine ll_0 ⟨by omega, by omega⟩ dL_isWindow_14 ?_
  refine V_eqT (y := zI (P 0 2)) (congrArg zI (LR.g2 hL)) ?_
  refine V_icmp_ge (tgt := 22) dL_isWindow_15 (by decide) ⟨⟨by omega, by omega⟩, ⟨by omega, by omega⟩⟩ (fun c_60 => ?_) (fun c_60 => ?_)
  · refine V_iconst dL_isWindow_22 ?_
    refine seg_23 false ?_
    · exact ⟨(fun h => nomatch h), fun h => absurd h (by omega)⟩
  · refine V_iconst dL_isWindow_18 ?_
    refine V_goto (tgt := 23) dL_isWindow_19 (by decide) ?_
    refine seg_23 true ?_
    · exact ⟨fun _ => by omega, fun _ => rfl⟩
theorem q_isWindow (en c b : Nat → Nat) (κ τ : St) (Y : vWd) (what : Int) (one : Int) (two : Int) (P : St) (hp : MI P ∧ LR P τ ∧ CWP P κ ∧ (0 ≤ what ∧ what ≤ 3) ∧ (0 ≤ one ∧ one ≤ 60000) ∧ (0 ≤ two ∧ two ≤ 60000)) : MC (EX en) yL_isWindow tL_isWindow [.ref (c 0), .ref (b 0), .ref (b 1), .int (zI what), .int (zI one), .int (zI two)] (lW b τ (Y ++ fm (cO en c κ))) (fun v w => ∃ (κ2 : St) (τ2 : St) (P2 : St), v = some (.int (zI (bz true))) ∧ w = (lW b τ2 (Y ++ fm (cO en c κ2))) ∧ (MI P2) ∧ (LR P2 τ2) ∧ (CWP P2 κ2)) := by
  obtain ⟨hM, hL, hC, hw, h1, h2⟩ := hp
  rcases (show what = 0 ∨ what = 1 ∨ what = 2 ∨ what = 3 by omega) with rfl | rfl | rfl | rfl
  · exact q_isWindow0 en c b κ τ Y one two P ⟨hM, hL, hC, h1, h2⟩
  · exact q_isWindow1 en c b κ τ Y one two P ⟨hM, hL, hC, h1, h2⟩
  · exact q_isWindow2 en c b κ τ Y one two P ⟨hM, hL, hC, h1, h2⟩
  · exact q_isWindow3 en c b κ τ Y one two P ⟨hM, hL, hC, h1, h2⟩

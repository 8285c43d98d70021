/-! the law: its body -/
abbrev sL_law : SI := (cL_law, RL, 13, ret, room_1)
/-- the first state -/
def κ0 : St := fun k i => if k = 0 then (if i = 0 then 4 else if i = 1 then 4 else if i = 11 then 1 else 0) else if k = 49 then 16 else if k = 64 then (if i = 0 then 0 else 4) else if k = 40 then 1 else if k = 41 then 1 else if k = 42 then 1 else 0
theorem κ0_MI : MI κ0 := by
  have e0 : κ0 0 0 = 4 := rfl
  have e1 : κ0 0 1 = 4 := rfl
  have e2 : κ0 0 2 = 0 := rfl
  have e11 : κ0 0 11 = 1 := rfl
  have e12 : κ0 0 12 = 0 := rfl
  refine ⟨by omega, by omega, by omega, by omega, by omega, fun s _ _ => ?_, fun s j _ _ j0 j1 => ?_⟩
  · have e3 : κ0 3 s = 0 := rfl
    have e4 : κ0 4 s = 0 := rfl
    have e9 : κ0 9 s = 0 := rfl
    have e10 : κ0 10 s = 0 := rfl
    have e13 : κ0 13 s = 0 := rfl
    exact ⟨by omega, by omega, Or.inl e9, by omega, Or.inl e13, fun _ => ⟨e4, e9, e10⟩⟩
  · have e4 : κ0 4 s = 0 := rfl
    omega
theorem κ0_CWP : CWP κ0 κ0 := by
  refine ⟨⟨fun _ _ _ => rfl, rfl, fun i _ _ hl => ?_⟩, fun s a b => ?_, ?_⟩
  · unfold lsz at hl
    split at hl
    · have e2 : κ0 0 2 = 0 := rfl
      omega
    · have e4 : κ0 4 i = 0 := rfl
      omega
  · have e2 : κ0 0 2 = 0 := rfl
    omega
  · have e39 : κ0 39 4 = 0 := rfl
    have e40 : κ0 40 4 = 1 := rfl
    have e41 : κ0 41 4 = 1 := rfl
    have e42 : κ0 42 4 = 1 := rfl
    have e43 : κ0 43 4 = 0 := rfl
    unfold WB
    omega
theorem law_P3 (A B : vWd) (p q : Nat × vE) : (p :: (A ++ (q :: B))).Perm (A ++ (B ++ [q, p])) := by
  have h1 : (p :: (A ++ (q :: B))).Perm ((A ++ (q :: B)) ++ [p]) := List.perm_append_comm (l₁ := [p])
  have h2 : ((A ++ (q :: B)) ++ [p]).Perm ((A ++ (B ++ [q])) ++ [p]) := (List.Perm.append_left A (List.perm_append_comm (l₁ := [q]) (l₂ := B))).append_right [p]
  refine h1.trans (h2.trans ?_)
  rw [List.append_assoc, List.append_assoc]
  exact List.Perm.refl _
theorem kA_r4 (c : Nat → Nat) (m : Int) : kA c m = r4 (c (20 + 6 * m.toNat)) (c (21 + 6 * m.toNat)) (c (22 + 6 * m.toNat)) (c (23 + 6 * m.toNat)) := by
  funext j
  unfold kA r4
  by_cases h : 0 ≤ j ∧ j < 4
  · rw [if_pos h]
    rcases (show j = 0 ∨ j = 1 ∨ j = 2 ∨ j = 3 by omega) with rfl | rfl | rfl | rfl
    · rfl
    · rw [if_neg (by decide), if_pos rfl]; exact congrArg (fun z => some (c z)) (by omega)
    · rw [if_neg (by decide), if_neg (by decide), if_pos rfl]; exact congrArg (fun z => some (c z)) (by omega)
    · rw [if_neg (by decide), if_neg (by decide), if_neg (by decide), if_pos rfl]; exact congrArg (fun z => some (c z)) (by omega)
  · rw [if_neg h, if_neg (by omega), if_neg (by omega), if_neg (by omega), if_neg (by omega)]
theorem alw0 (bw cw : Int) : alw κ0 bw cw := fun s a b => absurd b (Int.not_lt.mpr a)
theorem fws0 : fws κ0 (κ0 0 11) (κ0 0 12) = -1 := (fws_eq (P := κ0) (bw := κ0 0 11) (cw := κ0 0 12) (w := -1) (Or.inl ⟨rfl, fun x a b => absurd b (Int.not_lt.mpr a)⟩)).symm
theorem best0 : sp_bestRoom κ0 = (0, 0, κ0) := by
  have h1 : IsBest κ0 16 0 0 0 := Or.inr ⟨by decide, 0, by decide, by decide, alw0 _ _, rfl, rfl, rfl, fun j a b => absurd b (Int.not_lt.mpr a), fun j _ _ _ => Int.le_of_eq rfl⟩
  have h2 : hasB κ0 := ⟨0, by decide, by decide, alw0 _ _⟩
  have h3 : sp_bestRoom κ0 = (0, bsB κ0, κ0) := gc_t h2
  rw [h3, ← (bs_eq h1 (by decide)).1]
set_option maxRecDepth 100000 in
set_option maxHeartbeats 4000000 in
theorem law_run {K : KT} {en : Nat → Nat} {sb Ln : Nat} {xs : Nat → Int32} (hK : evK K = ES en sb Ln xs) (hLn : Ln ≤ 260) (hend : ∀ (k n : Nat) (ws : vWd) (L : List (Option Value)), k ≤ 600086 → n ≤ 7301442 → V K sL_law k n ws L [.int (zI 1)] 519) (b c : Nat → Nat) (κ τ : St) (Y : vWd) (hC : CWP κ0 κ) (hL : LR κ0 τ) : V K sL_law 37 8787 (lW b τ (Y ++ fm (cO en c κ))) [some (.ref sb), some (.ref (c 0)), some (.ref (b 0)), some (.ref (b 1)), some (.ref (b 2)), some (.ref (b 3)), some (.ref (b 4)), none, none, none, none, none, none] [] 47 := by
  have loop_164 : ∀ (n0 : Nat) (k : Int) (c1 : Nat → Nat) (κ1 : St) (τ1 : St) (P1 : St) (k1 : Nat) (n1 : Nat), (24 - k).toNat = n0 → (0 ≤ k ∧ k ≤ 24) → (MI P1) → (LR P1 τ1) → (CWP P1 κ1) → (LT P1 τ1) → (LE P1 τ1) → (k1 ≤ 100 + 2500 * k.toNat) → (n1 ≤ 20000 + 25000 * k.toNat) → V K sL_law k1 n1 (lW b τ1 (Y ++ fm (cO en c1 κ1))) [some (.ref sb), some (.ref (c1 0)), some (.ref (b 0)), some (.ref (b 1)), some (.ref (b 2)), some (.ref (b 3)), some (.ref (b 4)), some (.int (zI 1)), some (.int (zI k)), none, none, none, none] [] 164 := by
    intro n0
    induction n0 using Nat.strongRecOn with
    | _ n0 ih_164 =>
    intro k c1 κ1 τ1 P1 k1 n1 hm_164 hk hM1 hL1 hC1 hT1 hE1 hk1 hn1
    have seg_206 : ∀ (what : Int), (k < 24) → (0 ≤ what ∧ what ≤ 17) → V K sL_law k1 n1 (lW b τ1 (Y ++ fm (cO en c1 κ1))) [some (.ref sb), some (.ref (c1 0)), some (.ref (b 0)), some (.ref (b 1)), some (.ref (b 2)), some (.ref (b 3)), some (.ref (b 4)), some (.int (zI 1)), some (.int (zI k)), none, none, none, none] [.int (zI what)] 206 := by
      intro what hkn hwh
      have seg_299 : ∀ (one : Int) (two : Int) (c2 : Nat → Nat) (κ2 : St) (τ2 : St) (P2 : St) (k2 : Nat) (n2 : Nat), (0 ≤ one ∧ one < 60000) → (0 ≤ two ∧ two < 60000) → (MI P2) → (LR P2 τ2) → (CWP P2 κ2) → (k2 ≤ k1 + 30) → (n2 ≤ n1 + 300) → V K sL_law k2 n2 (lW b τ2 (Y ++ fm (cO en c2 κ2))) [some (.ref sb), some (.ref (c2 0)), some (.ref (b 0)), some (.ref (b 1)), some (.ref (b 2)), some (.ref (b 3)), some (.ref (b 4)), some (.int (zI 1)), some (.int (zI k)), some (.int (zI what)), some (.int (zI one)), some (.int (zI two)), none] [] 299 := by
        intro one two c2 κ2 τ2 P2 k2 n2 hone htwo hM2 hL2 hC2 hk2 hn2
        have seg_336 : ∀ (κ3 : St) (τ3 : St) (P3 : St), (MI P3) → (LR P3 τ3) → (CWP P3 κ3) → (LT P3 τ3) → (LE P3 τ3) → V K sL_law k2 n2 (lW b τ3 (Y ++ fm (cO en c2 κ3))) [some (.ref sb), some (.ref (c2 0)), some (.ref (b 0)), some (.ref (b 1)), some (.ref (b 2)), some (.ref (b 3)), some (.ref (b 4)), some (.int (zI 1)), some (.int (zI k)), some (.int (zI what)), some (.int (zI one)), some (.int (zI two)), none] [] 336 := by
          intro κ3 τ3 P3 hM3 hL3 hC3 hT3 hE3
          have seg_374 : ∀ (κ4 : St) (k4 : Nat) (n4 : Nat), (CWP P3 κ4) → (k4 ≤ k2 + 1000) → (n4 ≤ n2 + 10000) → V K sL_law k4 n4 (lW b τ3 (Y ++ fm (cO en c2 κ4))) [some (.ref sb), some (.ref (c2 0)), some (.ref (b 0)), some (.ref (b 1)), some (.ref (b 2)), some (.ref (b 3)), some (.ref (b 4)), some (.int (zI 1)), some (.int (zI k)), some (.int (zI what)), some (.int (zI one)), some (.int (zI two)), some (.int (zI ((two / 7) % 4)))] [] 374 := by
            intro κ4 k4 n4 hC4 hk4 hn4
            have seg_395 : ∀ (κ5 : St) (k5 : Nat) (n5 : Nat), (CWP P3 κ5) → (k5 ≤ k4 + 100) → (n5 ≤ n4 + 1000) → V K sL_law k5 n5 (lW b τ3 (Y ++ fm (cO en c2 κ5))) [some (.ref sb), some (.ref (c2 0)), some (.ref (b 0)), some (.ref (b 1)), some (.ref (b 2)), some (.ref (b 3)), some (.ref (b 4)), some (.int (zI 1)), some (.int (zI k)), some (.int (zI what)), some (.int (zI one)), some (.int (zI two)), some (.int (zI ((two / 7) % 4)))] [] 395 := by
              intro κ5 k5 n5 hC5 hk5 hn5
              have seg_416 : ∀ (κ6 : St) (k6 : Nat) (n6 : Nat), (CWP P3 κ6) → (k6 ≤ k5 + 1000) → (n6 ≤ n5 + 10000) → V K sL_law k6 n6 (lW b τ3 (Y ++ fm (cO en c2 κ6))) [some (.ref sb), some (.ref (c2 0)), some (.ref (b 0)), some (.ref (b 1)), some (.ref (b 2)), some (.ref (b 3)), some (.ref (b 4)), some (.int (zI 1)), some (.int (zI k)), some (.int (zI what)), some (.int (zI one)), some (.int (zI two)), some (.int (zI ((two / 7) % 4)))] [] 416 := by
                intro κ6 k6 n6 hC6 hk6 hn6
                have seg_440 : ∀ (κ7 : St) (k7 : Nat) (n7 : Nat), (CWP P3 κ7) → (k7 ≤ k6 + 100) → (n7 ≤ n6 + 1000) → V K sL_law k7 n7 (lW b τ3 (Y ++ fm (cO en c2 κ7))) [some (.ref sb), some (.ref (c2 0)), some (.ref (b 0)), some (.ref (b 1)), some (.ref (b 2)), some (.ref (b 3)), some (.ref (b 4)), some (.int (zI 1)), some (.int (zI k)), some (.int (zI what)), some (.int (zI one)), some (.int (zI two)), some (.int (zI ((two / 7) % 4)))] [] 440 := by
                  intro κ7 k7 n7 hC7 hk7 hn7
                  refine V_iconst dL_law_440 ?_
                  refine V_goto (tgt := 445) dL_law_441 (by decide) ?_
                  refine V_istore (L' := [some (.ref sb), some (.ref (c2 0)), some (.ref (b 0)), some (.ref (b 1)), some (.ref (b 2)), some (.ref (b 3)), some (.ref (b 4)), some (.int (zI 1)), some (.int (zI k)), some (.int (zI what)), some (.int (zI one)), some (.int (zI two)), some (.int (zI ((two / 7) % 4)))]) dL_law_445 (by decide) rfl ?_
                  refine V_iinc (L' := [some (.ref sb), some (.ref (c2 0)), some (.ref (b 0)), some (.ref (b 1)), some (.ref (b 2)), some (.ref (b 3)), some (.ref (b 4)), some (.int (zI 1)), some (.int (zI (k + 1))), some (.int (zI what)), some (.int (zI one)), some (.int (zI two)), some (.int (zI ((two / 7) % 4)))]) dL_law_447 (by decide) rfl rfl ?_
                  refine V_goto (tgt := 164) dL_law_450 (by decide) ?_
                  refine V_mask (L' := [some (.ref sb), some (.ref (c2 0)), some (.ref (b 0)), some (.ref (b 1)), some (.ref (b 2)), some (.ref (b 3)), some (.ref (b 4)), some (.int (zI 1)), some (.int (zI (k + 1))), none, none, none, none]) [true, true, true, true, true, true, true, true, true, false, false, false, false] rfl ?_
                  refine ih_164 _ (by omega) (k + 1) c2 κ7 τ3 P3 k7 n7 rfl ?_ ?_ ?_ ?_ ?_ ?_ ?_ ?_
                  · omega
                  · exact hM3
                  · exact hL3
                  · exact hC7
                  · exact hT3
                  · exact hE3
                  · omega
                  · omega
                refine V_iload dL_law_416 rfl ?_
                refine V_iconst dL_law_418 ?_
                refine V_icmp_ne (tgt := 440) dL_law_419 (by decide) ⟨⟨by omega, by omega⟩, ⟨by omega, by omega⟩⟩ (fun c_1 => ?_) (fun c_1 => ?_)
                · refine seg_440 κ6 k6 n6 ?_ ?_ ?_
                  · exact hC6
                  · omega
                  · omega
                · refine V_iload dL_law_422 rfl ?_
                  refine V_iconst dL_law_424 ?_
                  refine V_iremN dL_law_425 ⟨⟨by omega, by omega⟩, ⟨by omega, by omega⟩, by omega, by omega⟩ ?_
                  refine V_if_gt (tgt := 440) dL_law_426 (by decide) ⟨by omega, by omega⟩ (fun c_2 => ?_) (fun c_2 => ?_)
                  · refine seg_440 κ6 k6 n6 ?_ ?_ ?_
                    · exact hC6
                    · omega
                    · omega
                  · refine V_aload_n dL_law_429 rfl ?_
                    refine V_aload_n dL_law_430 rfl ?_
                    refine V_aload_n dL_law_431 rfl ?_
                    refine V_aload dL_law_432 rfl ?_
                    refine V_callSF (As := [.ref (c2 0), .ref (b 0), .ref (b 1), .ref (b 2)]) hK (MC.env ES.ex (q_isBest en c2 b κ6 τ3 Y P3 ⟨hM3, hL3, hC6⟩)) nokL_isBest w1017 w1018 ⟨Nat.le_of_ble_eq_true rfl, Nat.le_of_ble_eq_true rfl⟩ rfl (Nat.le_of_ble_eq_true rfl) ⟨(by show k6 + 0 + 100 ≤ 600086; omega), (by show n6 + 0 + 1000 ≤ 7301442; omega)⟩ dL_law_434 (fun v w p_3 => ?_)
                    obtain ⟨κ_4, rfl, rfl, q_5⟩ := p_3
                    show V K sL_law (k6 + 100) (n6 + 1000) (lW b τ3 (Y ++ fm (cO en c2 κ_4))) _ [.int (zI (bz true))] 437
                    refine V_ifb_eq (tgt := 444) dL_law_437 (by decide) (fun h => absurd h (by decide)) (fun _ => ?_)
                    refine seg_440 κ_4 (k6 + 100) (n6 + 1000) ?_ ?_ ?_
                    · exact q_5
                    · omega
                    · omega
              refine V_iload dL_law_395 rfl ?_
              refine V_iconst dL_law_397 ?_
              refine V_icmp_ne (tgt := 416) dL_law_398 (by decide) ⟨⟨by omega, by omega⟩, ⟨by omega, by omega⟩⟩ (fun c_7 => ?_) (fun c_7 => ?_)
              · refine seg_416 κ5 k5 n5 ?_ ?_ ?_
                · exact hC5
                · omega
                · omega
              · refine V_aload_n dL_law_401 rfl ?_
                refine V_aload_n dL_law_402 rfl ?_
                refine V_aload_n dL_law_403 rfl ?_
                refine V_aload dL_law_404 rfl ?_
                refine V_aload dL_law_406 rfl ?_
                refine V_iload dL_law_408 rfl ?_
                refine V_callSF (As := [.ref (c2 0), .ref (b 0), .ref (b 1), .ref (b 2), .ref (b 3), .int (zI one)]) hK (MC.env ES.ex (q_areValues en c2 b κ5 τ3 Y one P3 ⟨hM3, hL3, hC5, hT3, ⟨by omega, by omega⟩⟩)) nokL_areValues w993 w994 ⟨Nat.le_of_ble_eq_true rfl, Nat.le_of_ble_eq_true rfl⟩ rfl (Nat.le_of_ble_eq_true rfl) ⟨(by show k5 + 0 + 1000 ≤ 600086; omega), (by show n5 + 0 + 10000 ≤ 7301442; omega)⟩ dL_law_410 (fun v w p_8 => ?_)
                obtain ⟨κ_9, rfl, rfl, q_10⟩ := p_8
                show V K sL_law (k5 + 1000) (n5 + 10000) (lW b τ3 (Y ++ fm (cO en c2 κ_9))) _ [.int (zI (bz true))] 413
                refine V_ifb_eq (tgt := 444) dL_law_413 (by decide) (fun h => absurd h (by decide)) (fun _ => ?_)
                refine seg_416 κ_9 (k5 + 1000) (n5 + 10000) ?_ ?_ ?_
                · exact q_10
                · omega
                · omega
            refine V_iload dL_law_374 rfl ?_
            refine V_iconst dL_law_376 ?_
            refine V_icmp_ne (tgt := 395) dL_law_377 (by decide) ⟨⟨by omega, by omega⟩, ⟨by omega, by omega⟩⟩ (fun c_12 => ?_) (fun c_12 => ?_)
            · refine seg_395 κ4 k4 n4 ?_ ?_ ?_
              · exact hC4
              · omega
              · omega
            · refine V_aload_n dL_law_380 rfl ?_
              refine V_aload_n dL_law_381 rfl ?_
              refine V_aload_n dL_law_382 rfl ?_
              refine V_aload dL_law_383 rfl ?_
              refine V_aload dL_law_385 rfl ?_
              refine V_iload dL_law_387 rfl ?_
              refine V_callSF (As := [.ref (c2 0), .ref (b 0), .ref (b 1), .ref (b 3), .ref (b 4), .int (zI one)]) hK (MC.env ES.ex (q_areWindows en c2 b κ4 τ3 Y one P3 ⟨hM3, hL3, hC4, hT3, hE3, ⟨by omega, by omega⟩⟩)) nokL_areWindows w925 w926 ⟨Nat.le_of_ble_eq_true rfl, Nat.le_of_ble_eq_true rfl⟩ rfl (Nat.le_of_ble_eq_true rfl) ⟨(by show k4 + 0 + 100 ≤ 600086; omega), (by show n4 + 0 + 1000 ≤ 7301442; omega)⟩ dL_law_389 (fun v w p_13 => ?_)
              obtain ⟨κ_14, rfl, rfl, q_15⟩ := p_13
              show V K sL_law (k4 + 100) (n4 + 1000) (lW b τ3 (Y ++ fm (cO en c2 κ_14))) _ [.int (zI (bz true))] 392
              refine V_ifb_eq (tgt := 444) dL_law_392 (by decide) (fun h => absurd h (by decide)) (fun _ => ?_)
              refine seg_395 κ_14 (k4 + 100) (n4 + 1000) ?_ ?_ ?_
              · exact q_15
              · omega
              · omega
          refine V_iload dL_law_336 rfl ?_
          refine V_bipush dL_law_338 (by decide) ?_
          refine V_idiv dL_law_340 ⟨⟨by omega, by omega⟩, ⟨by omega, by omega⟩, by omega, by omega⟩ ?_
          refine V_iconst dL_law_341 ?_
          refine V_iremN dL_law_342 ⟨⟨by omega, by omega⟩, ⟨by omega, by omega⟩, by omega, by omega⟩ ?_
          refine V_istore (L' := [some (.ref sb), some (.ref (c2 0)), some (.ref (b 0)), some (.ref (b 1)), some (.ref (b 2)), some (.ref (b 3)), some (.ref (b 4)), some (.int (zI 1)), some (.int (zI k)), some (.int (zI what)), some (.int (zI one)), some (.int (zI two)), some (.int (zI ((two / 7) % 4)))]) dL_law_343 (by decide) rfl ?_
          refine V_iload dL_law_345 rfl ?_
          refine V_if_eq (tgt := 444) dL_law_347 (by decide) ⟨by decide, by decide⟩ (fun h => absurd h (by decide)) (fun _ => ?_)
          refine V_iload dL_law_350 rfl ?_
          refine V_if_ne (tgt := 374) dL_law_352 (by decide) ⟨by omega, by omega⟩ (fun c_18 => ?_) (fun c_18 => ?_)
          · refine seg_374 κ3 k2 n2 ?_ ?_ ?_
            · exact hC3
            · omega
            · omega
          · refine V_aload_n dL_law_355 rfl ?_
            refine V_aload_n dL_law_356 rfl ?_
            refine V_aload_n dL_law_357 rfl ?_
            refine V_aload dL_law_358 rfl ?_
            refine V_aload dL_law_360 rfl ?_
            refine V_aload dL_law_362 rfl ?_
            refine V_iload dL_law_364 rfl ?_
            refine V_iload dL_law_366 rfl ?_
            refine V_callSF (As := [.ref (c2 0), .ref (b 0), .ref (b 1), .ref (b 2), .ref (b 3), .ref (b 4), .int (zI one), .int (zI two)]) hK (MC.env ES.ex (q_areLives en c2 b κ3 τ3 Y one two P3 ⟨hM3, hL3, hC3, hT3, hE3, ⟨by omega, by omega⟩, ⟨by omega, by omega⟩⟩)) nokL_areLives w883 w884 ⟨Nat.le_of_ble_eq_true rfl, Nat.le_of_ble_eq_true rfl⟩ rfl (Nat.le_of_ble_eq_true rfl) ⟨(by show k2 + 0 + 1000 ≤ 600086; omega), (by show n2 + 0 + 10000 ≤ 7301442; omega)⟩ dL_law_368 (fun v w p_19 => ?_)
            obtain ⟨κ_20, rfl, rfl, q_21⟩ := p_19
            show V K sL_law (k2 + 1000) (n2 + 10000) (lW b τ3 (Y ++ fm (cO en c2 κ_20))) _ [.int (zI (bz true))] 371
            refine V_ifb_eq (tgt := 444) dL_law_371 (by decide) (fun h => absurd h (by decide)) (fun _ => ?_)
            refine seg_374 κ_20 (k2 + 1000) (n2 + 10000) ?_ ?_ ?_
            · exact q_21
            · omega
            · omega
        refine V_aload_n dL_law_299 rfl ?_
        refine V_aload_n dL_law_300 rfl ?_
        refine V_aload dL_law_301 rfl ?_
        refine V_callSF (As := [.ref (b 0), .ref (b 1), .ref (b 3)]) hK (q_steps (ES.stb en sb Ln xs) b τ2 (Y ++ fm (cO en c2 κ2)) P2 ⟨hM2, hL2⟩) mokL_steps w868 w869 ⟨Nat.le_of_ble_eq_true rfl, Nat.le_of_ble_eq_true rfl⟩ rfl (Nat.le_of_ble_eq_true rfl) ⟨(by show k2 + 0 + 0 ≤ 600086; omega), (by show n2 + 0 + 0 ≤ 7301442; omega)⟩ dL_law_303 (fun v w p_23 => ?_)
        obtain ⟨τ_24, rfl, rfl, q_25, q_26⟩ := p_23
        show V K sL_law k2 n2 (lW b τ_24 (Y ++ fm (cO en c2 κ2))) _ [] 306
        refine V_aload_n dL_law_306 rfl ?_
        refine V_aload_n dL_law_307 rfl ?_
        refine V_aload dL_law_308 rfl ?_
        refine V_aload dL_law_310 rfl ?_
        refine V_aload dL_law_312 rfl ?_
        refine V_callSF (As := [.ref (b 0), .ref (b 1), .ref (b 2), .ref (b 3), .ref (b 4)]) hK (q_ends (ES.stb en sb Ln xs) b τ_24 (Y ++ fm (cO en c2 κ2)) P2 ⟨hM2, ((hL2).fr q_25 (by decide)), q_26⟩) mokL_ends w877 w878 ⟨Nat.le_of_ble_eq_true rfl, Nat.le_of_ble_eq_true rfl⟩ rfl (Nat.le_of_ble_eq_true rfl) ⟨(by show k2 + 0 + 0 ≤ 600086; omega), (by show n2 + 0 + 0 ≤ 7301442; omega)⟩ dL_law_314 (fun v w p_27 => ?_)
        obtain ⟨τ_28, rfl, rfl, q_29, q_30⟩ := p_27
        show V K sL_law k2 n2 (lW b τ_28 (Y ++ fm (cO en c2 κ2))) _ [] 317
        refine V_iload dL_law_317 rfl ?_
        refine V_bipush dL_law_319 (by decide) ?_
        refine V_icmp_ne (tgt := 336) dL_law_321 (by decide) ⟨⟨by omega, by omega⟩, ⟨by omega, by omega⟩⟩ (fun c_31 => ?_) (fun c_31 => ?_)
        · refine seg_336 κ2 τ_28 P2 ?_ ?_ ?_ ?_ ?_
          · exact hM2
          · exact ((((hL2).fr q_25 (by decide))).fr q_29 (by decide))
          · exact hC2
          · exact q_26.same (q_29 3 (by decide))
          · exact q_30
        · refine V_aload_n dL_law_324 rfl ?_
          refine V_aload_n dL_law_325 rfl ?_
          refine V_aload_n dL_law_326 rfl ?_
          refine V_aload dL_law_327 rfl ?_
          refine V_aload dL_law_329 rfl ?_
          refine V_callSF (As := [.ref (c2 0), .ref (b 0), .ref (b 1), .ref (b 3), .ref (b 4)]) hK (MC.env ES.ex (q_isContracted en c2 b κ2 τ_28 Y P2 ⟨hM2, ((((hL2).fr q_25 (by decide))).fr q_29 (by decide)), hC2, q_26.same (q_29 3 (by decide)), q_30⟩)) nokL_isContracted w1026 w1027 ⟨Nat.le_of_ble_eq_true rfl, Nat.le_of_ble_eq_true rfl⟩ rfl (Nat.le_of_ble_eq_true rfl) ⟨(by show k2 + 0 + 0 ≤ 600086; omega), (by show n2 + 0 + 0 ≤ 7301442; omega)⟩ dL_law_331 (fun v w p_32 => ?_)
          obtain ⟨κ_33, τ_34, rfl, rfl, q_35, q_36, q_37, q_38, q_39⟩ := p_32
          show V K sL_law k2 n2 (lW b τ_34 (Y ++ fm (cO en c2 κ_33))) _ [.int (zI (bz true))] 334
          refine V_istore (L' := [some (.ref sb), some (.ref (c2 0)), some (.ref (b 0)), some (.ref (b 1)), some (.ref (b 2)), some (.ref (b 3)), some (.ref (b 4)), some (.int (zI (bz true))), some (.int (zI k)), some (.int (zI what)), some (.int (zI one)), some (.int (zI two)), none]) dL_law_334 (by decide) rfl ?_
          refine seg_336 κ_33 τ_34 (ctq P2 (P2 0 2)) ?_ ?_ ?_ ?_ ?_
          · exact q_35
          · exact q_36
          · exact q_37
          · exact q_38
          · exact q_39
      refine V_istore (L' := [some (.ref sb), some (.ref (c1 0)), some (.ref (b 0)), some (.ref (b 1)), some (.ref (b 2)), some (.ref (b 3)), some (.ref (b 4)), some (.int (zI 1)), some (.int (zI k)), some (.int (zI what)), none, none, none]) dL_law_206 (by decide) rfl ?_
      refine V_aload_n dL_law_208 rfl ?_
      refine V_iconst dL_law_209 ?_
      refine V_iload dL_law_210 rfl ?_
      refine V_imul dL_law_212 ?_
      refine V_iconst dL_law_213 ?_
      refine V_iadd dL_law_214 ?_
      refine V_ldc (z := 60000) wldc_220 dL_law_215 ?_
      refine V_callSF (As := [.ref sb, .int (zI ((3 * k) + 1)), .int (zI 60000)]) hK (q_part en sb Ln xs hLn b τ1 (Y ++ fm (cO en c1 κ1)) ((3 * k) + 1) 60000 ⟨⟨by omega, by omega⟩, by omega, by omega⟩) mokL_part w503 w504 ⟨Nat.le_of_ble_eq_true rfl, Nat.le_of_ble_eq_true rfl⟩ rfl (Nat.le_of_ble_eq_true rfl) ⟨(by show k1 + 0 + 0 ≤ 600086; omega), (by show n1 + 0 + 0 ≤ 7301442; omega)⟩ dL_law_217 (fun v w p_40 => ?_)
      obtain ⟨r_41, rfl, rfl, q_42⟩ := p_40
      show V K sL_law k1 n1 (lW b τ1 (Y ++ fm (cO en c1 κ1))) _ [.int (zI r_41)] 220
      refine V_istore (L' := [some (.ref sb), some (.ref (c1 0)), some (.ref (b 0)), some (.ref (b 1)), some (.ref (b 2)), some (.ref (b 3)), some (.ref (b 4)), some (.int (zI 1)), some (.int (zI k)), some (.int (zI what)), some (.int (zI r_41)), none, none]) dL_law_220 (by decide) rfl ?_
      refine V_aload_n dL_law_222 rfl ?_
      refine V_iconst dL_law_223 ?_
      refine V_iload dL_law_224 rfl ?_
      refine V_imul dL_law_226 ?_
      refine V_iconst dL_law_227 ?_
      refine V_iadd dL_law_228 ?_
      refine V_ldc (z := 60000) wldc_220 dL_law_229 ?_
      refine V_callSF (As := [.ref sb, .int (zI ((3 * k) + 2)), .int (zI 60000)]) hK (q_part en sb Ln xs hLn b τ1 (Y ++ fm (cO en c1 κ1)) ((3 * k) + 2) 60000 ⟨⟨by omega, by omega⟩, by omega, by omega⟩) mokL_part w503 w504 ⟨Nat.le_of_ble_eq_true rfl, Nat.le_of_ble_eq_true rfl⟩ rfl (Nat.le_of_ble_eq_true rfl) ⟨(by show k1 + 0 + 0 ≤ 600086; omega), (by show n1 + 0 + 0 ≤ 7301442; omega)⟩ dL_law_231 (fun v w p_43 => ?_)
      obtain ⟨r_44, rfl, rfl, q_45⟩ := p_43
      show V K sL_law k1 n1 (lW b τ1 (Y ++ fm (cO en c1 κ1))) _ [.int (zI r_44)] 234
      refine V_istore (L' := [some (.ref sb), some (.ref (c1 0)), some (.ref (b 0)), some (.ref (b 1)), some (.ref (b 2)), some (.ref (b 3)), some (.ref (b 4)), some (.int (zI 1)), some (.int (zI k)), some (.int (zI what)), some (.int (zI r_41)), some (.int (zI r_44)), none]) dL_law_234 (by decide) rfl ?_
      refine V_iload dL_law_236 rfl ?_
      refine V_bipush dL_law_238 (by decide) ?_
      refine V_icmp_ge (tgt := 264) dL_law_240 (by decide) ⟨⟨by omega, by omega⟩, ⟨by omega, by omega⟩⟩ (fun c_46 => ?_) (fun c_46 => ?_)
      · refine V_iload dL_law_264 rfl ?_
        refine V_bipush dL_law_266 (by decide) ?_
        refine V_icmp_ge (tgt := 299) dL_law_268 (by decide) ⟨⟨by omega, by omega⟩, ⟨by omega, by omega⟩⟩ (fun c_47 => ?_) (fun c_47 => ?_)
        · refine seg_299 r_41 r_44 c1 κ1 τ1 P1 k1 n1 ?_ ?_ ?_ ?_ ?_ ?_ ?_
          · omega
          · omega
          · exact hM1
          · exact hL1
          · exact hC1
          · omega
          · omega
        · refine V_aload_n dL_law_271 rfl ?_
          refine V_aload_n dL_law_272 rfl ?_
          refine V_aload_n dL_law_273 rfl ?_
          refine V_iload dL_law_274 rfl ?_
          refine V_bipush dL_law_276 (by decide) ?_
          refine V_icmp_ne (tgt := 285) dL_law_278 (by decide) ⟨⟨by omega, by omega⟩, ⟨by omega, by omega⟩⟩ (fun c_48 => ?_) (fun c_48 => ?_)
          · refine V_iload dL_law_285 rfl ?_
            refine V_bipush dL_law_287 (by decide) ?_
            refine V_isub dL_law_289 ?_
            refine V_iload dL_law_290 rfl ?_
            refine V_iload dL_law_292 rfl ?_
            refine V_callSF (As := [.ref (c1 0), .ref (b 0), .ref (b 1), .int (zI (what - 12)), .int (zI r_41), .int (zI r_44)]) hK (MC.env ES.ex (q_isWindow en c1 b κ1 τ1 Y (what - 12) r_41 r_44 P1 ⟨hM1, hL1, hC1, ⟨by omega, by omega⟩, ⟨by omega, by omega⟩, ⟨by omega, by omega⟩⟩)) nokL_isWindow w1023 w1024 ⟨Nat.le_of_ble_eq_true rfl, Nat.le_of_ble_eq_true rfl⟩ rfl (Nat.le_of_ble_eq_true rfl) ⟨(by show k1 + 0 + 10 ≤ 600086; omega), (by show n1 + 0 + 100 ≤ 7301442; omega)⟩ dL_law_294 (fun v w p_49 => ?_)
            obtain ⟨κ_50, τ_51, P_52, rfl, rfl, q_53, q_54, q_55⟩ := p_49
            show V K sL_law (k1 + 10) (n1 + 100) (lW b τ_51 (Y ++ fm (cO en c1 κ_50))) _ [.int (zI (bz true))] 297
            refine V_istore (L' := [some (.ref sb), some (.ref (c1 0)), some (.ref (b 0)), some (.ref (b 1)), some (.ref (b 2)), some (.ref (b 3)), some (.ref (b 4)), some (.int (zI (bz true))), some (.int (zI k)), some (.int (zI what)), some (.int (zI r_41)), some (.int (zI r_44)), none]) dL_law_297 (by decide) rfl ?_
            refine seg_299 r_41 r_44 c1 κ_50 τ_51 P_52 (k1 + 10) (n1 + 100) ?_ ?_ ?_ ?_ ?_ ?_ ?_
            · omega
            · omega
            · exact q_53
            · exact q_54
            · exact q_55
            · omega
            · omega
          · refine V_iconst dL_law_281 ?_
            refine V_goto (tgt := 290) dL_law_282 (by decide) ?_
            refine V_iload dL_law_290 rfl ?_
            refine V_iload dL_law_292 rfl ?_
            refine V_callSF (As := [.ref (c1 0), .ref (b 0), .ref (b 1), .int (zI 3), .int (zI r_41), .int (zI r_44)]) hK (MC.env ES.ex (q_isWindow en c1 b κ1 τ1 Y 3 r_41 r_44 P1 ⟨hM1, hL1, hC1, ⟨by omega, by omega⟩, ⟨by omega, by omega⟩, ⟨by omega, by omega⟩⟩)) nokL_isWindow w1023 w1024 ⟨Nat.le_of_ble_eq_true rfl, Nat.le_of_ble_eq_true rfl⟩ rfl (Nat.le_of_ble_eq_true rfl) ⟨(by show k1 + 0 + 10 ≤ 600086; omega), (by show n1 + 0 + 100 ≤ 7301442; omega)⟩ dL_law_294 (fun v w p_56 => ?_)
            obtain ⟨κ_57, τ_58, P_59, rfl, rfl, q_60, q_61, q_62⟩ := p_56
            show V K sL_law (k1 + 10) (n1 + 100) (lW b τ_58 (Y ++ fm (cO en c1 κ_57))) _ [.int (zI (bz true))] 297
            refine V_istore (L' := [some (.ref sb), some (.ref (c1 0)), some (.ref (b 0)), some (.ref (b 1)), some (.ref (b 2)), some (.ref (b 3)), some (.ref (b 4)), some (.int (zI (bz true))), some (.int (zI k)), some (.int (zI what)), some (.int (zI r_41)), some (.int (zI r_44)), none]) dL_law_297 (by decide) rfl ?_
            refine seg_299 r_41 r_44 c1 κ_57 τ_58 P_59 (k1 + 10) (n1 + 100) ?_ ?_ ?_ ?_ ?_ ?_ ?_
            · omega
            · omega
            · exact q_60
            · exact q_61
            · exact q_62
            · omega
            · omega
      · refine V_aload_n dL_law_243 rfl ?_
        refine V_aload_n dL_law_244 rfl ?_
        refine V_aload_n dL_law_245 rfl ?_
        refine V_aload dL_law_246 rfl ?_
        refine V_aload dL_law_248 rfl ?_
        refine V_iload dL_law_250 rfl ?_
        refine V_iload dL_law_252 rfl ?_
        refine V_iload dL_law_254 rfl ?_
        refine V_callSF (As := [.ref (c1 0), .ref (b 0), .ref (b 1), .ref (b 2), .ref (b 3), .int (zI what), .int (zI r_41), .int (zI r_44)]) hK (MC.env ES.ex (q_isProgram en c1 b κ1 τ1 Y what r_41 r_44 P1 ⟨hM1, hL1, hC1, ⟨by omega, by omega⟩, ⟨by omega, by omega⟩, ⟨by omega, by omega⟩⟩)) nokL_isProgram w1020 w1021 ⟨Nat.le_of_ble_eq_true rfl, Nat.le_of_ble_eq_true rfl⟩ rfl (Nat.le_of_ble_eq_true rfl) ⟨(by show k1 + 0 + 20 ≤ 600086; omega), (by show n1 + 0 + 200 ≤ 7301442; omega)⟩ dL_law_256 (fun v w p_63 => ?_)
        obtain ⟨c_64, κ_65, τ_66, P_67, rfl, rfl, q_68, q_69, q_70, q_71⟩ := p_63
        show V K sL_law (k1 + 20) (n1 + 200) (lW b τ_66 (Y ++ fm (cO en c_64 κ_65))) _ [.int (zI (bz true))] 259
        rw [← q_68]
        refine V_istore (L' := [some (.ref sb), some (.ref (c_64 0)), some (.ref (b 0)), some (.ref (b 1)), some (.ref (b 2)), some (.ref (b 3)), some (.ref (b 4)), some (.int (zI (bz true))), some (.int (zI k)), some (.int (zI what)), some (.int (zI r_41)), some (.int (zI r_44)), none]) dL_law_259 (by decide) rfl ?_
        refine V_goto (tgt := 299) dL_law_261 (by decide) ?_
        refine seg_299 r_41 r_44 c_64 κ_65 τ_66 P_67 (k1 + 20) (n1 + 200) ?_ ?_ ?_ ?_ ?_ ?_ ?_
        · omega
        · omega
        · exact q_69
        · exact q_70
        · exact q_71
        · omega
        · omega
    refine V_iload dL_law_164 rfl ?_
    refine V_bipush dL_law_166 (by decide) ?_
    refine V_icmp_ge (tgt := 453) dL_law_168 (by decide) ⟨⟨by omega, by omega⟩, ⟨by omega, by omega⟩⟩ (fun c_72 => ?_) (fun c_72 => ?_)
    · refine V_iload dL_law_453 rfl ?_
      refine V_if_eq (tgt := 518) dL_law_455 (by decide) ⟨by decide, by decide⟩ (fun h => absurd h (by decide)) (fun _ => ?_)
      refine V_aload_n dL_law_458 rfl ?_
      refine V_aload_n dL_law_459 rfl ?_
      refine V_aload_n dL_law_460 rfl ?_
      refine V_aload dL_law_461 rfl ?_
      refine V_aload dL_law_463 rfl ?_
      refine V_aload dL_law_465 rfl ?_
      refine V_iconst dL_law_467 ?_
      refine V_iconst dL_law_468 ?_
      refine V_callSF (As := [.ref (c1 0), .ref (b 0), .ref (b 1), .ref (b 2), .ref (b 3), .ref (b 4), .int (zI 0), .int (zI 0)]) hK (MC.env ES.ex (q_areLives en c1 b κ1 τ1 Y 0 0 P1 ⟨hM1, hL1, hC1, hT1, hE1, ⟨by omega, by omega⟩, ⟨by omega, by omega⟩⟩)) nokL_areLives w883 w884 ⟨Nat.le_of_ble_eq_true rfl, Nat.le_of_ble_eq_true rfl⟩ rfl (Nat.le_of_ble_eq_true rfl) ⟨(by show k1 + 0 + 1000 ≤ 600086; omega), (by show n1 + 0 + 10000 ≤ 7301442; omega)⟩ dL_law_469 (fun v w p_74 => ?_)
      obtain ⟨κ_75, rfl, rfl, q_76⟩ := p_74
      show V K sL_law (k1 + 1000) (n1 + 10000) (lW b τ1 (Y ++ fm (cO en c1 κ_75))) _ [.int (zI (bz true))] 472
      refine V_ifb_eq (tgt := 518) dL_law_472 (by decide) (fun h => absurd h (by decide)) (fun _ => ?_)
      refine V_aload_n dL_law_475 rfl ?_
      refine V_aload_n dL_law_476 rfl ?_
      refine V_aload_n dL_law_477 rfl ?_
      refine V_aload dL_law_478 rfl ?_
      refine V_aload dL_law_480 rfl ?_
      refine V_iconst dL_law_482 ?_
      refine V_callSF (As := [.ref (c1 0), .ref (b 0), .ref (b 1), .ref (b 3), .ref (b 4), .int (zI 1)]) hK (MC.env ES.ex (q_areWindows en c1 b κ_75 τ1 Y 1 P1 ⟨hM1, hL1, q_76, hT1, hE1, ⟨by omega, by omega⟩⟩)) nokL_areWindows w925 w926 ⟨Nat.le_of_ble_eq_true rfl, Nat.le_of_ble_eq_true rfl⟩ rfl (Nat.le_of_ble_eq_true rfl) ⟨(by show k1 + 1000 + 100 ≤ 600086; omega), (by show n1 + 10000 + 1000 ≤ 7301442; omega)⟩ dL_law_483 (fun v w p_78 => ?_)
      obtain ⟨κ_79, rfl, rfl, q_80⟩ := p_78
      show V K sL_law (k1 + 1100) (n1 + 11000) (lW b τ1 (Y ++ fm (cO en c1 κ_79))) _ [.int (zI (bz true))] 486
      refine V_ifb_eq (tgt := 518) dL_law_486 (by decide) (fun h => absurd h (by decide)) (fun _ => ?_)
      refine V_aload_n dL_law_489 rfl ?_
      refine V_aload_n dL_law_490 rfl ?_
      refine V_aload_n dL_law_491 rfl ?_
      refine V_aload dL_law_492 rfl ?_
      refine V_aload dL_law_494 rfl ?_
      refine V_iconst dL_law_496 ?_
      refine V_callSF (As := [.ref (c1 0), .ref (b 0), .ref (b 1), .ref (b 2), .ref (b 3), .int (zI 2)]) hK (MC.env ES.ex (q_areValues en c1 b κ_79 τ1 Y 2 P1 ⟨hM1, hL1, q_80, hT1, ⟨by omega, by omega⟩⟩)) nokL_areValues w993 w994 ⟨Nat.le_of_ble_eq_true rfl, Nat.le_of_ble_eq_true rfl⟩ rfl (Nat.le_of_ble_eq_true rfl) ⟨(by show k1 + 1100 + 1000 ≤ 600086; omega), (by show n1 + 11000 + 10000 ≤ 7301442; omega)⟩ dL_law_497 (fun v w p_82 => ?_)
      obtain ⟨κ_83, rfl, rfl, q_84⟩ := p_82
      show V K sL_law (k1 + 2100) (n1 + 21000) (lW b τ1 (Y ++ fm (cO en c1 κ_83))) _ [.int (zI (bz true))] 500
      refine V_ifb_eq (tgt := 518) dL_law_500 (by decide) (fun h => absurd h (by decide)) (fun _ => ?_)
      refine V_aload_n dL_law_503 rfl ?_
      refine V_aload_n dL_law_504 rfl ?_
      refine V_aload_n dL_law_505 rfl ?_
      refine V_aload dL_law_506 rfl ?_
      refine V_callSF (As := [.ref (c1 0), .ref (b 0), .ref (b 1), .ref (b 2)]) hK (MC.env ES.ex (q_isBest en c1 b κ_83 τ1 Y P1 ⟨hM1, hL1, q_84⟩)) nokL_isBest w1017 w1018 ⟨Nat.le_of_ble_eq_true rfl, Nat.le_of_ble_eq_true rfl⟩ rfl (Nat.le_of_ble_eq_true rfl) ⟨(by show k1 + 2100 + 100 ≤ 600086; omega), (by show n1 + 21000 + 1000 ≤ 7301442; omega)⟩ dL_law_508 (fun v w p_86 => ?_)
      obtain ⟨κ_87, rfl, rfl, q_88⟩ := p_86
      show V K sL_law (k1 + 2200) (n1 + 22000) (lW b τ1 (Y ++ fm (cO en c1 κ_87))) _ [.int (zI (bz true))] 511
      refine V_ifb_eq (tgt := 518) dL_law_511 (by decide) (fun h => absurd h (by decide)) (fun _ => ?_)
      refine V_iconst dL_law_514 ?_
      refine V_goto (tgt := 519) dL_law_515 (by decide) ?_
      exact hend _ _ _ _ (by show k1 + 2200 ≤ 600086; omega) (by show n1 + 22000 ≤ 7301442; omega)
    · refine V_iload dL_law_171 rfl ?_
      refine V_if_eq (tgt := 453) dL_law_173 (by decide) ⟨by decide, by decide⟩ (fun h => absurd h (by decide)) (fun _ => ?_)
      refine V_iload dL_law_176 rfl ?_
      refine V_iconst dL_law_178 ?_
      refine V_icmp_ge (tgt := 186) dL_law_179 (by decide) ⟨⟨by omega, by omega⟩, ⟨by omega, by omega⟩⟩ (fun c_91 => ?_) (fun c_91 => ?_)
      · refine V_iload dL_law_186 rfl ?_
        refine V_iconst dL_law_188 ?_
        refine V_icmp_ge (tgt := 196) dL_law_189 (by decide) ⟨⟨by omega, by omega⟩, ⟨by omega, by omega⟩⟩ (fun c_92 => ?_) (fun c_92 => ?_)
        · refine V_aload_n dL_law_196 rfl ?_
          refine V_iconst dL_law_197 ?_
          refine V_iload dL_law_198 rfl ?_
          refine V_imul dL_law_200 ?_
          refine V_bipush dL_law_201 (by decide) ?_
          refine V_callSF (As := [.ref sb, .int (zI (3 * k)), .int (zI 18)]) hK (q_part en sb Ln xs hLn b τ1 (Y ++ fm (cO en c1 κ1)) (3 * k) 18 ⟨⟨by omega, by omega⟩, by omega, by omega⟩) mokL_part w503 w504 ⟨Nat.le_of_ble_eq_true rfl, Nat.le_of_ble_eq_true rfl⟩ rfl (Nat.le_of_ble_eq_true rfl) ⟨(by show k1 + 0 + 0 ≤ 600086; omega), (by show n1 + 0 + 0 ≤ 7301442; omega)⟩ dL_law_203 (fun v w p_93 => ?_)
          obtain ⟨r_94, rfl, rfl, q_95⟩ := p_93
          show V K sL_law k1 n1 (lW b τ1 (Y ++ fm (cO en c1 κ1))) _ [.int (zI r_94)] 206
          refine seg_206 r_94 ?_ ?_
          · omega
          · omega
        · refine V_iconst dL_law_192 ?_
          refine V_goto (tgt := 206) dL_law_193 (by decide) ?_
          refine seg_206 1 ?_ ?_
          · omega
          · omega
      · refine V_iconst dL_law_182 ?_
        refine V_goto (tgt := 206) dL_law_183 (by decide) ?_
        refine seg_206 0 ?_ ?_
        · omega
        · omega
  have seg_164 : ∀ (k : Int) (c1 : Nat → Nat) (κ1 : St) (τ1 : St) (P1 : St) (k1 : Nat) (n1 : Nat), (0 ≤ k ∧ k ≤ 24) → (MI P1) → (LR P1 τ1) → (CWP P1 κ1) → (LT P1 τ1) → (LE P1 τ1) → (k1 ≤ 100 + 2500 * k.toNat) → (n1 ≤ 20000 + 25000 * k.toNat) → V K sL_law k1 n1 (lW b τ1 (Y ++ fm (cO en c1 κ1))) [some (.ref sb), some (.ref (c1 0)), some (.ref (b 0)), some (.ref (b 1)), some (.ref (b 2)), some (.ref (b 3)), some (.ref (b 4)), some (.int (zI 1)), some (.int (zI k)), none, none, none, none] [] 164 := fun k c1 κ1 τ1 P1 k1 n1 hk hM1 hL1 hC1 hT1 hE1 hk1 hn1 => loop_164 _ k c1 κ1 τ1 P1 k1 n1 rfl hk hM1 hL1 hC1 hT1 hE1 hk1 hn1
  refine V_aload_n dL_law_47 rfl ?_
  refine V_callVB (As := []) (b := c 0) (ci := 9) (fs := cwF c κ) (T := TX10) (N := 9) (lW_cw b τ Y en c κ) rfl (wr := (lW b τ Y)) (wc := fm (cO en c κ)) rfl hK (MC.env (fun A U H h => EX.en A U H (ES.ex A U H h)) (r_room en c κ κ0 ⟨κ0_MI, hC⟩)) mokX10_room w469 w462 w463 ⟨Nat.le_of_ble_eq_true rfl, Nat.le_of_ble_eq_true rfl⟩ rfl (Nat.le_of_ble_eq_true rfl) ⟨(by show 37 + 0 + 0 ≤ 600086; omega), (by show 8787 + 0 + 0 ≤ 7301442; omega)⟩ dL_law_48 (fun v w p_96 => ?_)
  obtain ⟨κ_97, rfl, rfl, q_98⟩ := p_96
  show V K sL_law 37 8787 (lW b τ (Y ++ fm (cO en c κ_97))) _ [.int (zI (smv (sz κ0) (κ0 0 2)))] 51
  refine V_eqT (y := zI 0) (rfl) ?_
  refine V_if_ne (tgt := 158) dL_law_51 (by decide) ⟨by decide, by decide⟩ (fun h => absurd h (by decide)) (fun _ => ?_)
  refine V_aload_n dL_law_54 rfl ?_
  refine V_callVB (As := []) (b := c 0) (ci := 9) (fs := cwF c κ_97) (T := TX10) (N := 9) (lW_cw b τ Y en c κ_97) rfl (wr := (lW b τ Y)) (wc := fm (cO en c κ_97)) rfl hK (MC.env (fun A U H h => EX.en A U H (ES.ex A U H h)) (r_steps en c κ_97 κ0 ⟨κ0_MI, q_98⟩)) mokX10_steps w296 w297 w298 ⟨Nat.le_of_ble_eq_true rfl, Nat.le_of_ble_eq_true rfl⟩ rfl (Nat.le_of_ble_eq_true rfl) ⟨(by show 37 + 0 + 0 ≤ 600086; omega), (by show 8787 + 0 + 0 ≤ 7301442; omega)⟩ dL_law_55 (fun v w p_100 => ?_)
  obtain ⟨κ_101, rfl, rfl, q_102⟩ := p_100
  show V K sL_law 37 8787 (lW b τ (Y ++ fm (cO en c κ_101))) _ [.int (zI (al κ0))] 58
  refine V_eqT (y := zI 0) (rfl) ?_
  refine V_if_ne (tgt := 158) dL_law_58 (by decide) ⟨by decide, by decide⟩ (fun h => absurd h (by decide)) (fun _ => ?_)
  refine V_aload_n dL_law_61 rfl ?_
  refine V_callVB (As := []) (b := c 0) (ci := 9) (fs := cwF c κ_101) (T := TX10) (N := 9) (lW_cw b τ Y en c κ_101) rfl (wr := (lW b τ Y)) (wc := fm (cO en c κ_101)) rfl hK (MC.env (fun A U H h => EX.en A U H (ES.ex A U H h)) (r_mostLive en c κ_101 κ0 ⟨κ0_MI, q_102⟩)) mokX10_mostLive w308 w309 w310 ⟨Nat.le_of_ble_eq_true rfl, Nat.le_of_ble_eq_true rfl⟩ rfl (Nat.le_of_ble_eq_true rfl) ⟨(by show 37 + 0 + 0 ≤ 600086; omega), (by show 8787 + 0 + 0 ≤ 7301442; omega)⟩ dL_law_62 (fun v w p_104 => ?_)
  obtain ⟨κ_105, rfl, rfl, q_106⟩ := p_104
  show V K sL_law 37 8787 (lW b τ (Y ++ fm (cO en c κ_105))) _ [.int (zI (mxv (lvN κ0 (κ0 0 11) (κ0 0 12) (selS κ0 (-1))) (al κ0)))] 65
  refine V_eqT (y := zI 0) (rfl) ?_
  refine V_if_ne (tgt := 158) dL_law_65 (by decide) ⟨by decide, by decide⟩ (fun h => absurd h (by decide)) (fun _ => ?_)
  refine V_aload_n dL_law_68 rfl ?_
  refine V_callVB (As := []) (b := c 0) (ci := 9) (fs := cwF c κ_105) (T := TX10) (N := 9) (lW_cw b τ Y en c κ_105) rfl (wr := (lW b τ Y)) (wc := fm (cO en c κ_105)) rfl hK (MC.env (fun A U H h => EX.en A U H (ES.ex A U H h)) (r_isAllowed en c κ_105 κ0 ⟨κ0_MI, q_106⟩)) mokX10_isAllowed w261 w262 w263 ⟨Nat.le_of_ble_eq_true rfl, Nat.le_of_ble_eq_true rfl⟩ rfl (Nat.le_of_ble_eq_true rfl) ⟨(by show 37 + 0 + 0 ≤ 600086; omega), (by show 8787 + 0 + 0 ≤ 7301442; omega)⟩ dL_law_69 (fun v w p_108 => ?_)
  obtain ⟨κ_109, rfl, rfl, q_110⟩ := p_108
  show V K sL_law 37 8787 (lW b τ (Y ++ fm (cO en c κ_109))) _ [.int (zI (bz (dcd (alw κ0 (κ0 0 11) (κ0 0 12)))))] 72
  refine V_ifc_eq (tgt := 158) dL_law_72 (by decide) (fun c_111 => absurd (alw0 _ _) c_111) (fun _ => ?_)
  refine V_aload_n dL_law_75 rfl ?_
  refine V_callVB (As := []) (b := c 0) (ci := 9) (fs := cwF c κ_109) (T := TX10) (N := 9) (lW_cw b τ Y en c κ_109) rfl (wr := (lW b τ Y)) (wc := fm (cO en c κ_109)) rfl hK (MC.env (fun A U H h => EX.en A U H (ES.ex A U H h)) (r_firstWrongStep en c κ_109 κ0 ⟨κ0_MI, q_110⟩)) mokX10_firstWrongStep w470 w471 w472 ⟨Nat.le_of_ble_eq_true rfl, Nat.le_of_ble_eq_true rfl⟩ rfl (Nat.le_of_ble_eq_true rfl) ⟨(by show 37 + 0 + 0 ≤ 600086; omega), (by show 8787 + 0 + 0 ≤ 7301442; omega)⟩ dL_law_76 (fun v w p_112 => ?_)
  obtain ⟨κ_113, rfl, rfl, q_114⟩ := p_112
  show V K sL_law 37 8787 (lW b τ (Y ++ fm (cO en c κ_113))) _ [.int (zI (fws κ0 (κ0 0 11) (κ0 0 12)))] 79
  refine V_eqT (y := zI (-1)) (by rw [fws0]) ?_
  refine V_iconst dL_law_79 ?_
  refine V_icmp_ne (tgt := 158) dL_law_80 (by decide) ⟨⟨by decide, by decide⟩, ⟨by decide, by decide⟩⟩ (fun h => absurd h (by decide)) (fun _ => ?_)
  refine V_aload_n dL_law_83 rfl ?_
  refine V_callVB (As := []) (b := c 0) (ci := 9) (fs := cwF c κ_113) (T := TX10) (N := 9) (lW_cw b τ Y en c κ_113) rfl (wr := (lW b τ Y)) (wc := fm (cO en c κ_113)) rfl hK (MC.env (fun A U H h => EX.en A U H (ES.ex A U H h)) (r_contract en c κ_113 κ0 ⟨κ0_MI, q_114⟩)) mokX10_contract w360 w361 w362 ⟨Nat.le_of_ble_eq_true rfl, Nat.le_of_ble_eq_true rfl⟩ rfl (Nat.le_of_ble_eq_true rfl) ⟨(by show 37 + 0 + 0 ≤ 600086; omega), (by show 8787 + 0 + 0 ≤ 7301442; omega)⟩ dL_law_84 (fun v w p_116 => ?_)
  obtain ⟨κ_117, rfl, rfl, q_118⟩ := p_116
  have q_119 : CWP κ0 κ_117 := q_118
  show V K sL_law 37 8787 (lW b τ (Y ++ fm (cO en c κ_117))) _ [.int (zI (smv (sz (ctq κ0 (κ0 0 2))) (κ0 0 2)))] 87
  refine V_eqT (y := zI 0) (rfl) ?_
  refine V_if_ne (tgt := 158) dL_law_87 (by decide) ⟨by decide, by decide⟩ (fun h => absurd h (by decide)) (fun _ => ?_)
  refine V_aload_n dL_law_90 rfl ?_
  refine V_bipush dL_law_91 (by decide) ?_
  refine V_iconst dL_law_93 ?_
  refine V_iconst dL_law_94 ?_
  refine V_iconst dL_law_95 ?_
  refine V_iconst dL_law_96 ?_
  refine V_iconst dL_law_97 ?_
  refine V_callSBH (As := [.ref (c 0), .int (zI 10), .int (zI 0), .int (zI 0), .int (zI 0), .int (zI 0), .int (zI 0)]) (wr := (lW b τ Y)) (wc := fm (cO en c κ_117)) rfl hK (MCH.env ES.ex (d_10 en c κ_117 0 0 0 0 0 κ0 ⟨κ0_MI, q_119⟩)) mokL_does w507 w508 ⟨Nat.le_of_ble_eq_true rfl, Nat.le_of_ble_eq_true rfl⟩ rfl (Nat.le_of_ble_eq_true rfl) ⟨(by show 37 + 0 + 8 ≤ 600086; omega), (by show 8787 + 0 + 50 ≤ 7301442; omega)⟩ dL_law_98 (fun v w p_121 => ?_)
  obtain ⟨κ_122, rfl, rfl, q_123⟩ := p_121
  show V K sL_law (37 + 8) (8787 + 50) (lW b τ (Y ++ fm (cO en c κ_122))) _ [.int (zI (dvl (-1000) 0 0 (sp_bestRoom κ0)))] 101
  have e_126 : sp_bestRoom κ0 = (0, 0, κ0) := best0
  rw [e_126] at q_123
  refine V_eqT (y := zI 0) (by rw [e_126]; rfl) ?_
  show V K sL_law (37 + 8) (8787 + 50) (lW b τ (Y ++ fm (cO en c κ_122))) _ [.int (zI 0)] 101
  refine V_if_ne (tgt := 158) dL_law_101 (by decide) ⟨by decide, by decide⟩ (fun h => absurd h (by decide)) (fun _ => ?_)
  refine V_aload_n dL_law_104 rfl ?_
  refine V_bipush dL_law_105 (by decide) ?_
  refine V_iconst dL_law_107 ?_
  refine V_iconst dL_law_108 ?_
  refine V_iconst dL_law_109 ?_
  refine V_iconst dL_law_110 ?_
  refine V_iconst dL_law_111 ?_
  refine V_callSBH (As := [.ref (c 0), .int (zI 13), .int (zI 0), .int (zI 0), .int (zI 0), .int (zI 0), .int (zI 0)]) (wr := (lW b τ Y)) (wc := fm (cO en c κ_122)) rfl hK (MCH.env ES.ex (d_13 en c κ_122 0 0 0 0 0 κ0 ⟨κ0_MI, q_123, ⟨by omega, by omega⟩, ⟨by omega, by omega⟩, ⟨by omega, by omega⟩⟩)) mokL_does w507 w508 ⟨Nat.le_of_ble_eq_true rfl, Nat.le_of_ble_eq_true rfl⟩ rfl (Nat.le_of_ble_eq_true rfl) ⟨(by show 37 + 8 + 8 ≤ 600086; omega), (by show 8787 + 50 + 50 ≤ 7301442; omega)⟩ dL_law_112 (fun v w p_128 => ?_)
  obtain ⟨κ_129, rfl, rfl, q_130⟩ := p_128
  show V K sL_law (37 + 16) (8787 + 100) (lW b τ (Y ++ fm (cO en c κ_129))) _ [.int (zI (dvl (-3000) 0 0 (sp_stepOf κ0 0 0 0)))] 115
  have e_133 : sp_stepOf κ0 0 0 0 = (1, 0, κ0) := gd_f (fun h => absurd h.1.2 (show ¬ (0 : Int) < 0 by decide))
  rw [e_133] at q_130
  refine V_eqT (y := zI (-3000)) (by rw [e_133]; rfl) ?_
  show V K sL_law (37 + 16) (8787 + 100) (lW b τ (Y ++ fm (cO en c κ_129))) _ [.int (zI (-3000))] 115
  refine V_sipush dL_law_115 (by decide) ?_
  refine V_icmp_ne (tgt := 158) dL_law_118 (by decide) ⟨⟨by decide, by decide⟩, ⟨by decide, by decide⟩⟩ (fun h => absurd h (by decide)) (fun _ => ?_)
  refine V_aload_n dL_law_121 rfl ?_
  refine V_bipush dL_law_122 (by decide) ?_
  refine V_iconst dL_law_124 ?_
  refine V_iconst dL_law_125 ?_
  refine V_iconst dL_law_126 ?_
  refine V_iconst dL_law_127 ?_
  refine V_iconst dL_law_128 ?_
  refine V_callSBH (As := [.ref (c 0), .int (zI 16), .int (zI 0), .int (zI 0), .int (zI 0), .int (zI 0), .int (zI 0)]) (wr := (lW b τ Y)) (wc := fm (cO en c κ_129)) rfl hK (MCH.env ES.ex (d_16 en c κ_129 0 0 0 0 0 κ0 ⟨κ0_MI, q_130, ⟨by omega, by omega⟩, ⟨by omega, by omega⟩⟩)) mokL_does w507 w508 ⟨Nat.le_of_ble_eq_true rfl, Nat.le_of_ble_eq_true rfl⟩ rfl (Nat.le_of_ble_eq_true rfl) ⟨(by show 37 + 16 + 8 ≤ 600086; omega), (by show 8787 + 100 + 50 ≤ 7301442; omega)⟩ dL_law_129 (fun v w p_135 => ?_)
  obtain ⟨κ_136, rfl, rfl, q_137⟩ := p_135
  show V K sL_law (37 + 24) (8787 + 150) (lW b τ (Y ++ fm (cO en c κ_136))) _ [.int (zI (dvl (-3000) 0 0 (sp_leastJointRest κ0 0 0)))] 132
  have e_140 : sp_leastJointRest κ0 0 0 = (1, 0, κ0) := gd_f (fun h => absurd h.1.2 (show ¬ (0 : Int) < 0 by decide))
  rw [e_140] at q_137
  refine V_eqT (y := zI (-3000)) (by rw [e_140]; rfl) ?_
  show V K sL_law (37 + 24) (8787 + 150) (lW b τ (Y ++ fm (cO en c κ_136))) _ [.int (zI (-3000))] 132
  refine V_sipush dL_law_132 (by decide) ?_
  refine V_icmp_ne (tgt := 158) dL_law_135 (by decide) ⟨⟨by decide, by decide⟩, ⟨by decide, by decide⟩⟩ (fun h => absurd h (by decide)) (fun _ => ?_)
  refine V_aload_n dL_law_138 rfl ?_
  refine V_iconst dL_law_139 ?_
  refine V_iconst dL_law_140 ?_
  refine V_iconst dL_law_141 ?_
  refine V_iconst dL_law_142 ?_
  refine V_iconst dL_law_143 ?_
  refine V_iconst dL_law_144 ?_
  refine V_callSBH (As := [.ref (c 0), .int (zI 4), .int (zI 0), .int (zI 1), .int (zI 0), .int (zI 0), .int (zI 0)]) (wr := (lW b τ Y)) (wc := fm (cO en c κ_136)) rfl hK (MCH.env ES.ex (d_4 en c κ_136 0 1 0 0 0 κ0 ⟨κ0_MI, q_137, ⟨by omega, by omega⟩, ⟨by omega, by omega⟩⟩)) mokL_does w507 w508 ⟨Nat.le_of_ble_eq_true rfl, Nat.le_of_ble_eq_true rfl⟩ rfl (Nat.le_of_ble_eq_true rfl) ⟨(by show 37 + 24 + 8 ≤ 600086; omega), (by show 8787 + 150 + 50 ≤ 7301442; omega)⟩ dL_law_145 (fun v w p_142 => ?_)
  obtain ⟨κ_143, rfl, rfl, q_144⟩ := p_142
  show V K sL_law (37 + 32) (8787 + 200) (lW b τ (Y ++ fm (cO en c κ_143))) _ [.int (zI (dvl (-2000) 0 0 (sp_setField κ0 0 1)))] 148
  have e_147 : sp_setField κ0 0 1 = (1, 0, κ0) := gd_f (fun h => by have := h.1.1; omega)
  rw [e_147] at q_144
  refine V_eqT (y := zI (-2000)) (by rw [e_147]; rfl) ?_
  show V K sL_law (37 + 32) (8787 + 200) (lW b τ (Y ++ fm (cO en c κ_143))) _ [.int (zI (-2000))] 148
  refine V_sipush dL_law_148 (by decide) ?_
  refine V_icmp_ne (tgt := 158) dL_law_151 (by decide) ⟨⟨by decide, by decide⟩, ⟨by decide, by decide⟩⟩ (fun h => absurd h (by decide)) (fun _ => ?_)
  refine V_iconst dL_law_154 ?_
  refine V_goto (tgt := 159) dL_law_155 (by decide) ?_
  refine V_istore (L' := [some (.ref sb), some (.ref (c 0)), some (.ref (b 0)), some (.ref (b 1)), some (.ref (b 2)), some (.ref (b 3)), some (.ref (b 4)), some (.int (zI 1)), none, none, none, none, none]) dL_law_159 (by decide) rfl ?_
  refine V_iconst dL_law_161 ?_
  refine V_istore (L' := [some (.ref sb), some (.ref (c 0)), some (.ref (b 0)), some (.ref (b 1)), some (.ref (b 2)), some (.ref (b 3)), some (.ref (b 4)), some (.int (zI 1)), some (.int (zI 0)), none, none, none, none]) dL_law_162 (by decide) rfl ?_
  refine seg_164 0 c κ_143 τ κ0 (37 + 32) (8787 + 200) ?_ ?_ ?_ ?_ ?_ ?_ ?_ ?_
  · omega
  · exact κ0_MI
  · exact hL
  · exact q_144
  · exact fun j a b3 => absurd b3 (Int.not_lt.mpr a)
  · exact fun j a b3 => absurd b3 (Int.not_lt.mpr a)
  · omega
  · omega
set_option maxRecDepth 100000 in
set_option maxHeartbeats 4000000 in
theorem law_begin {K : KT} {en : Nat → Nat} {sb Ln : Nat} {xs : Nat → Int32} (hK : evK K = ES en sb Ln xs) (hLn : Ln ≤ 260) (hend : ∀ (k n : Nat) (ws : vWd) (L : List (Option Value)), k ≤ 600086 → n ≤ 7301442 → V K sL_law k n ws L [.int (zI 1)] 519) : V K sL_law 0 0 [] [some (.ref sb), none, none, none, none, none, none, none, none, none, none, none, none] [] 0 := by
  refine V_new (C0 := RX10) (T := TX10) (N := 9) (ci := 9) (fs := [.null, .null, .null, .null, .null, .null, .null, .int (zI 0), .int (zI 0)]) iwX10 tyX10 tyX10_ok w28 w29 w1 rfl (fun j hj => by rcases (show j = 0 ∨ j = 1 ∨ j = 2 ∨ j = 3 ∨ j = 4 ∨ j = 5 ∨ j = 6 ∨ j = 7 ∨ j = 8 by omega) with rfl | rfl | rfl | rfl | rfl | rfl | rfl | rfl | rfl <;> rfl) ⟨Nat.le_of_ble_eq_true rfl, Nat.le_of_ble_eq_true rfl⟩ dL_law_0 (fun x => ?_)
  show V K sL_law 1 9 [(x, .inr (9, [.null, .null, .null, .null, .null, .null, .null, .int (zI 0), .int (zI 0)]))] [some (.ref sb), none, none, none, none, none, none, none, none, none, none, none, none] [.ref x] 3
  refine V_dup dL_law_3 rfl ?_
  refine V_callIB (As := []) (b := x) (wr := []) (wc := [(x, .inr (9, [.null, .null, .null, .null, .null, .null, .null, .int (zI 0), .int (zI 0)]))]) rfl hK (MC.env (fun A U H h => EX.en A U H (ES.ex A U H h)) (k_w10_init en x)) mokX10_init w30 w31 rfl rfl ⟨Nat.le_of_ble_eq_true rfl, Nat.le_of_ble_eq_true rfl⟩ rfl (Nat.le_of_ble_eq_true rfl) ⟨Nat.le_of_ble_eq_true rfl, Nat.le_of_ble_eq_true rfl⟩ dL_law_4 (fun v w h => ?_)
  obtain ⟨p_, pl_, wk_, w1_, w2_, w3_, w4_, w5_, w6_, w7_, w8_, w9_, df_, d1_, d2_, d3_, d4_, wn_, m_, m0_, m1_, m2_, m3_, m4_, n_, n0_, n1_, n2_, n3_, n4_, bs_, rfl, rfl⟩ := h
  show V K sL_law 32 8609 [(x, .inr (9, [.ref p_, .ref wk_, .ref df_, .ref wn_, .ref m_, .ref n_, .ref bs_, .int (zI 1), .int (zI 0)])), (p_, .inr (4, [.ref pl_, .int (zI 4), .int (zI 4), .int (zI 16)])), (pl_, .inr (0, [.int (zI 0), .ref (en 5), .int (zI 0)])), (wk_, .inr (8, [.ref w1_, .ref w2_, .ref w3_, .ref w4_, .ref w5_, .ref w6_, .ref w7_, .ref w8_, .ref w9_, .int (zI 0)])), (w1_, iE 0 256 (fun _ => 0)), (w2_, iE 0 256 (fun _ => 0)), (w3_, iE 0 256 (fun _ => 0)), (w4_, iE 0 256 (fun _ => 0)), (w5_, iE 0 256 (fun _ => 0)), (w6_, iE 0 256 (fun _ => 0)), (w7_, iE 0 256 (fun _ => 0)), (w8_, iE 0 158 (fun _ => 0)), (w9_, iE 0 258 (fun _ => 0)), (df_, .inr (2, [.ref d1_, .ref d2_, .ref d3_, .ref d4_, .int (zI 0), .int (zI 4), .int (zI 4)])), (d1_, iE 1 225 (fun _ => 0)), (d2_, iE 0 225 (fun _ => 0)), (d3_, iE 0 225 (fun _ => 0)), (d4_, iE 1 64 (fun _ => 0)), (wn_, .inr (7, [.ref (en 0), .int (zI 1), .int (zI 1), .int (zI 1), .int (zI 0)])), (m_, .inr (3, [.int (zI 0), .ref m0_])), (m0_, oE 4 4 (r4 m1_ m2_ m3_ m4_)), (m1_, iE 0 64 (fun _ => 0)), (m2_, iE 0 64 (fun _ => 0)), (m3_, iE 0 64 (fun _ => 0)), (m4_, iE 0 64 (fun _ => 0)), (n_, .inr (3, [.int (zI 1), .ref n0_])), (n0_, oE 4 4 (r4 n1_ n2_ n3_ n4_)), (n1_, iE 0 701 (fun _ => 0)), (n2_, iE 0 701 (fun _ => 0)), (n3_, iE 0 701 (fun _ => 0)), (n4_, iE 0 701 (fun _ => 0)), (bs_, .inr (1, [.int (zI 0), .int (zI 0), .int (zI 0), .int (zI 0)]))] [some (.ref sb), none, none, none, none, none, none, none, none, none, none, none, none] [.ref x] 7
  refine V_astore_n (L' := [some (.ref sb), some (.ref x), none, none, none, none, none, none, none, none, none, none, none]) dL_law_7 (by decide) rfl ?_
  refine V_iconst dL_law_8 ?_
  refine V_newa_i (N := 5) w137 rfl (by decide) ⟨Nat.le_of_ble_eq_true rfl, Nat.le_of_ble_eq_true rfl⟩ dL_law_9 (fun g_ => ?_)
  refine V_astore_n (L' := [some (.ref sb), some (.ref x), some (.ref g_), none, none, none, none, none, none, none, none, none, none]) dL_law_11 (by decide) rfl ?_
  refine V_bipush dL_law_12 (by decide) ?_
  refine V_newa_i (N := 29) w137 rfl (by decide) ⟨Nat.le_of_ble_eq_true rfl, Nat.le_of_ble_eq_true rfl⟩ dL_law_14 (fun a_ => ?_)
  refine V_astore_n (L' := [some (.ref sb), some (.ref x), some (.ref g_), some (.ref a_), none, none, none, none, none, none, none, none, none]) dL_law_16 (by decide) rfl ?_
  refine V_bipush dL_law_17 (by decide) ?_
  refine V_newa_i (N := 16) w137 rfl (by decide) ⟨Nat.le_of_ble_eq_true rfl, Nat.le_of_ble_eq_true rfl⟩ dL_law_19 (fun d_ => ?_)
  refine V_astore (L' := [some (.ref sb), some (.ref x), some (.ref g_), some (.ref a_), some (.ref d_), none, none, none, none, none, none, none, none]) dL_law_21 (by decide) rfl ?_
  refine V_bipush dL_law_23 (by decide) ?_
  refine V_newa_i (N := 64) w137 rfl (by decide) ⟨Nat.le_of_ble_eq_true rfl, Nat.le_of_ble_eq_true rfl⟩ dL_law_25 (fun t_ => ?_)
  refine V_astore (L' := [some (.ref sb), some (.ref x), some (.ref g_), some (.ref a_), some (.ref d_), some (.ref t_), none, none, none, none, none, none, none]) dL_law_27 (by decide) rfl ?_
  refine V_bipush dL_law_29 (by decide) ?_
  refine V_newa_i (N := 64) w137 rfl (by decide) ⟨Nat.le_of_ble_eq_true rfl, Nat.le_of_ble_eq_true rfl⟩ dL_law_31 (fun e_ => ?_)
  refine V_astore (L' := [some (.ref sb), some (.ref x), some (.ref g_), some (.ref a_), some (.ref d_), some (.ref t_), some (.ref e_), none, none, none, none, none, none]) dL_law_33 (by decide) rfl ?_
  obtain ⟨c, hc⟩ : ∃ c : Nat → Nat, c = (fun k => match k with
    | 0 => x
    | 1 => p_
    | 2 => wk_
    | 3 => w1_
    | 4 => w2_
    | 5 => w3_
    | 6 => w4_
    | 7 => w5_
    | 8 => w6_
    | 9 => w7_
    | 10 => w8_
    | 11 => w9_
    | 12 => df_
    | 13 => d1_
    | 14 => d2_
    | 15 => d3_
    | 16 => d4_
    | 18 => m_
    | 19 => m0_
    | 20 => m1_
    | 21 => m2_
    | 22 => m3_
    | 23 => m4_
    | 24 => n_
    | 25 => n0_
    | 26 => n1_
    | 27 => n2_
    | 28 => n3_
    | 29 => n4_
    | 30 => bs_
    | 66 => wn_
    | 67 => pl_
    | _ => 0) := ⟨_, rfl⟩
  obtain ⟨b, hb⟩ : ∃ b : Nat → Nat, b = (fun k => match k with | 0 => g_ | 1 => a_ | 2 => d_ | 3 => t_ | 4 => e_ | _ => 0) := ⟨_, rfl⟩
  have e1 : fm (cO en c κ0) = [(x, .inr (9, [.ref p_, .ref wk_, .ref df_, .ref wn_, .ref m_, .ref n_, .ref bs_, .int (zI 1), .int (zI 0)])), (p_, .inr (4, [.ref pl_, .int (zI 4), .int (zI 4), .int (zI 16)])), (wk_, .inr (8, [.ref w1_, .ref w2_, .ref w3_, .ref w4_, .ref w5_, .ref w6_, .ref w7_, .ref w8_, .ref w9_, .int (zI 0)])), (w1_, iE 0 256 (fun _ => 0)), (w2_, iE 0 256 (fun _ => 0)), (w3_, iE 0 256 (fun _ => 0)), (w4_, iE 0 256 (fun _ => 0)), (w5_, iE 0 256 (fun _ => 0)), (w6_, iE 0 256 (fun _ => 0)), (w7_, iE 0 256 (fun _ => 0)), (w8_, iE 0 158 (fun _ => 0)), (w9_, iE 0 258 (fun _ => 0)), (df_, .inr (2, [.ref d1_, .ref d2_, .ref d3_, .ref d4_, .int (zI 0), .int (zI 4), .int (zI 4)])), (d1_, iE 1 225 (fun _ => 0)), (d2_, iE 0 225 (fun _ => 0)), (d3_, iE 0 225 (fun _ => 0)), (d4_, iE 1 64 (fun _ => 0)), (m_, .inr (3, [.int (zI 0), .ref m0_])), (m0_, oE 4 4 (r4 m1_ m2_ m3_ m4_)), (m1_, iE 0 64 (fun _ => 0)), (m2_, iE 0 64 (fun _ => 0)), (m3_, iE 0 64 (fun _ => 0)), (m4_, iE 0 64 (fun _ => 0)), (n_, .inr (3, [.int (zI 1), .ref n0_])), (n0_, oE 4 4 (r4 n1_ n2_ n3_ n4_)), (n1_, iE 0 701 (fun _ => 0)), (n2_, iE 0 701 (fun _ => 0)), (n3_, iE 0 701 (fun _ => 0)), (n4_, iE 0 701 (fun _ => 0)), (bs_, .inr (1, [.int (zI 0), .int (zI 0), .int (zI 0), .int (zI 0)])), (wn_, .inr (7, [.ref (en 0), .int (zI 1), .int (zI 1), .int (zI 1), .int (zI 0)])), (pl_, .inr (0, [.int (zI 0), .ref (en 5), .int (zI 0)]))] := by
    subst hc
    unfold cO
    rw [kA_r4, kA_r4]
    rfl
  have e2 : lW b (fun _ _ => 0) ([] ++ fm (cO en c κ0)) = [(g_, iE 0 5 (fun _ => 0)), (a_, iE 0 29 (fun _ => 0)), (d_, iE 0 16 (fun _ => 0)), (t_, iE 0 64 (fun _ => 0)), (e_, iE 0 64 (fun _ => 0))] ++ fm (cO en c κ0) := by
    subst hb
    rfl
  have hx : x = c 0 := by subst hc; rfl
  have hg : g_ = b 0 := by subst hb; rfl
  have ha : a_ = b 1 := by subst hb; rfl
  have hd : d_ = b 2 := by subst hb; rfl
  have ht : t_ = b 3 := by subst hb; rfl
  have he : e_ = b 4 := by subst hb; rfl
  have hp : ((((([(x, .inr (9, [.ref p_, .ref wk_, .ref df_, .ref wn_, .ref m_, .ref n_, .ref bs_, .int (zI 1), .int (zI 0)])), (p_, .inr (4, [.ref pl_, .int (zI 4), .int (zI 4), .int (zI 16)])), (pl_, .inr (0, [.int (zI 0), .ref (en 5), .int (zI 0)])), (wk_, .inr (8, [.ref w1_, .ref w2_, .ref w3_, .ref w4_, .ref w5_, .ref w6_, .ref w7_, .ref w8_, .ref w9_, .int (zI 0)])), (w1_, iE 0 256 (fun _ => 0)), (w2_, iE 0 256 (fun _ => 0)), (w3_, iE 0 256 (fun _ => 0)), (w4_, iE 0 256 (fun _ => 0)), (w5_, iE 0 256 (fun _ => 0)), (w6_, iE 0 256 (fun _ => 0)), (w7_, iE 0 256 (fun _ => 0)), (w8_, iE 0 158 (fun _ => 0)), (w9_, iE 0 258 (fun _ => 0)), (df_, .inr (2, [.ref d1_, .ref d2_, .ref d3_, .ref d4_, .int (zI 0), .int (zI 4), .int (zI 4)])), (d1_, iE 1 225 (fun _ => 0)), (d2_, iE 0 225 (fun _ => 0)), (d3_, iE 0 225 (fun _ => 0)), (d4_, iE 1 64 (fun _ => 0)), (wn_, .inr (7, [.ref (en 0), .int (zI 1), .int (zI 1), .int (zI 1), .int (zI 0)])), (m_, .inr (3, [.int (zI 0), .ref m0_])), (m0_, oE 4 4 (r4 m1_ m2_ m3_ m4_)), (m1_, iE 0 64 (fun _ => 0)), (m2_, iE 0 64 (fun _ => 0)), (m3_, iE 0 64 (fun _ => 0)), (m4_, iE 0 64 (fun _ => 0)), (n_, .inr (3, [.int (zI 1), .ref n0_])), (n0_, oE 4 4 (r4 n1_ n2_ n3_ n4_)), (n1_, iE 0 701 (fun _ => 0)), (n2_, iE 0 701 (fun _ => 0)), (n3_, iE 0 701 (fun _ => 0)), (n4_, iE 0 701 (fun _ => 0)), (bs_, .inr (1, [.int (zI 0), .int (zI 0), .int (zI 0), .int (zI 0)]))] ++ [(g_, iE 0 5 (fun _ => 0))]) ++ [(a_, iE 0 29 (fun _ => 0))]) ++ [(d_, iE 0 16 (fun _ => 0))]) ++ [(t_, iE 0 64 (fun _ => 0))]) ++ [(e_, iE 0 64 (fun _ => 0))] : vWd).Perm (lW b (fun _ _ => 0) ([] ++ fm (cO en c κ0))) := by
    rw [e2, e1]
    have h1 : ([(x, .inr (9, [.ref p_, .ref wk_, .ref df_, .ref wn_, .ref m_, .ref n_, .ref bs_, .int (zI 1), .int (zI 0)])), (p_, .inr (4, [.ref pl_, .int (zI 4), .int (zI 4), .int (zI 16)])), (pl_, .inr (0, [.int (zI 0), .ref (en 5), .int (zI 0)])), (wk_, .inr (8, [.ref w1_, .ref w2_, .ref w3_, .ref w4_, .ref w5_, .ref w6_, .ref w7_, .ref w8_, .ref w9_, .int (zI 0)])), (w1_, iE 0 256 (fun _ => 0)), (w2_, iE 0 256 (fun _ => 0)), (w3_, iE 0 256 (fun _ => 0)), (w4_, iE 0 256 (fun _ => 0)), (w5_, iE 0 256 (fun _ => 0)), (w6_, iE 0 256 (fun _ => 0)), (w7_, iE 0 256 (fun _ => 0)), (w8_, iE 0 158 (fun _ => 0)), (w9_, iE 0 258 (fun _ => 0)), (df_, .inr (2, [.ref d1_, .ref d2_, .ref d3_, .ref d4_, .int (zI 0), .int (zI 4), .int (zI 4)])), (d1_, iE 1 225 (fun _ => 0)), (d2_, iE 0 225 (fun _ => 0)), (d3_, iE 0 225 (fun _ => 0)), (d4_, iE 1 64 (fun _ => 0)), (wn_, .inr (7, [.ref (en 0), .int (zI 1), .int (zI 1), .int (zI 1), .int (zI 0)])), (m_, .inr (3, [.int (zI 0), .ref m0_])), (m0_, oE 4 4 (r4 m1_ m2_ m3_ m4_)), (m1_, iE 0 64 (fun _ => 0)), (m2_, iE 0 64 (fun _ => 0)), (m3_, iE 0 64 (fun _ => 0)), (m4_, iE 0 64 (fun _ => 0)), (n_, .inr (3, [.int (zI 1), .ref n0_])), (n0_, oE 4 4 (r4 n1_ n2_ n3_ n4_)), (n1_, iE 0 701 (fun _ => 0)), (n2_, iE 0 701 (fun _ => 0)), (n3_, iE 0 701 (fun _ => 0)), (n4_, iE 0 701 (fun _ => 0)), (bs_, .inr (1, [.int (zI 0), .int (zI 0), .int (zI 0), .int (zI 0)]))] : vWd).Perm [(x, .inr (9, [.ref p_, .ref wk_, .ref df_, .ref wn_, .ref m_, .ref n_, .ref bs_, .int (zI 1), .int (zI 0)])), (p_, .inr (4, [.ref pl_, .int (zI 4), .int (zI 4), .int (zI 16)])), (wk_, .inr (8, [.ref w1_, .ref w2_, .ref w3_, .ref w4_, .ref w5_, .ref w6_, .ref w7_, .ref w8_, .ref w9_, .int (zI 0)])), (w1_, iE 0 256 (fun _ => 0)), (w2_, iE 0 256 (fun _ => 0)), (w3_, iE 0 256 (fun _ => 0)), (w4_, iE 0 256 (fun _ => 0)), (w5_, iE 0 256 (fun _ => 0)), (w6_, iE 0 256 (fun _ => 0)), (w7_, iE 0 256 (fun _ => 0)), (w8_, iE 0 158 (fun _ => 0)), (w9_, iE 0 258 (fun _ => 0)), (df_, .inr (2, [.ref d1_, .ref d2_, .ref d3_, .ref d4_, .int (zI 0), .int (zI 4), .int (zI 4)])), (d1_, iE 1 225 (fun _ => 0)), (d2_, iE 0 225 (fun _ => 0)), (d3_, iE 0 225 (fun _ => 0)), (d4_, iE 1 64 (fun _ => 0)), (m_, .inr (3, [.int (zI 0), .ref m0_])), (m0_, oE 4 4 (r4 m1_ m2_ m3_ m4_)), (m1_, iE 0 64 (fun _ => 0)), (m2_, iE 0 64 (fun _ => 0)), (m3_, iE 0 64 (fun _ => 0)), (m4_, iE 0 64 (fun _ => 0)), (n_, .inr (3, [.int (zI 1), .ref n0_])), (n0_, oE 4 4 (r4 n1_ n2_ n3_ n4_)), (n1_, iE 0 701 (fun _ => 0)), (n2_, iE 0 701 (fun _ => 0)), (n3_, iE 0 701 (fun _ => 0)), (n4_, iE 0 701 (fun _ => 0)), (bs_, .inr (1, [.int (zI 0), .int (zI 0), .int (zI 0), .int (zI 0)])), (wn_, .inr (7, [.ref (en 0), .int (zI 1), .int (zI 1), .int (zI 1), .int (zI 0)])), (pl_, .inr (0, [.int (zI 0), .ref (en 5), .int (zI 0)]))] := by
      have h3 := law_P3 [(wk_, .inr (8, [.ref w1_, .ref w2_, .ref w3_, .ref w4_, .ref w5_, .ref w6_, .ref w7_, .ref w8_, .ref w9_, .int (zI 0)])), (w1_, iE 0 256 (fun _ => 0)), (w2_, iE 0 256 (fun _ => 0)), (w3_, iE 0 256 (fun _ => 0)), (w4_, iE 0 256 (fun _ => 0)), (w5_, iE 0 256 (fun _ => 0)), (w6_, iE 0 256 (fun _ => 0)), (w7_, iE 0 256 (fun _ => 0)), (w8_, iE 0 158 (fun _ => 0)), (w9_, iE 0 258 (fun _ => 0)), (df_, .inr (2, [.ref d1_, .ref d2_, .ref d3_, .ref d4_, .int (zI 0), .int (zI 4), .int (zI 4)])), (d1_, iE 1 225 (fun _ => 0)), (d2_, iE 0 225 (fun _ => 0)), (d3_, iE 0 225 (fun _ => 0)), (d4_, iE 1 64 (fun _ => 0))] [(m_, .inr (3, [.int (zI 0), .ref m0_])), (m0_, oE 4 4 (r4 m1_ m2_ m3_ m4_)), (m1_, iE 0 64 (fun _ => 0)), (m2_, iE 0 64 (fun _ => 0)), (m3_, iE 0 64 (fun _ => 0)), (m4_, iE 0 64 (fun _ => 0)), (n_, .inr (3, [.int (zI 1), .ref n0_])), (n0_, oE 4 4 (r4 n1_ n2_ n3_ n4_)), (n1_, iE 0 701 (fun _ => 0)), (n2_, iE 0 701 (fun _ => 0)), (n3_, iE 0 701 (fun _ => 0)), (n4_, iE 0 701 (fun _ => 0)), (bs_, .inr (1, [.int (zI 0), .int (zI 0), .int (zI 0), .int (zI 0)]))] (pl_, .inr (0, [.int (zI 0), .ref (en 5), .int (zI 0)])) (wn_, .inr (7, [.ref (en 0), .int (zI 1), .int (zI 1), .int (zI 1), .int (zI 0)]))
      exact List.Perm.cons _ (List.Perm.cons _ h3)
    have h2 : ((((([(x, .inr (9, [.ref p_, .ref wk_, .ref df_, .ref wn_, .ref m_, .ref n_, .ref bs_, .int (zI 1), .int (zI 0)])), (p_, .inr (4, [.ref pl_, .int (zI 4), .int (zI 4), .int (zI 16)])), (pl_, .inr (0, [.int (zI 0), .ref (en 5), .int (zI 0)])), (wk_, .inr (8, [.ref w1_, .ref w2_, .ref w3_, .ref w4_, .ref w5_, .ref w6_, .ref w7_, .ref w8_, .ref w9_, .int (zI 0)])), (w1_, iE 0 256 (fun _ => 0)), (w2_, iE 0 256 (fun _ => 0)), (w3_, iE 0 256 (fun _ => 0)), (w4_, iE 0 256 (fun _ => 0)), (w5_, iE 0 256 (fun _ => 0)), (w6_, iE 0 256 (fun _ => 0)), (w7_, iE 0 256 (fun _ => 0)), (w8_, iE 0 158 (fun _ => 0)), (w9_, iE 0 258 (fun _ => 0)), (df_, .inr (2, [.ref d1_, .ref d2_, .ref d3_, .ref d4_, .int (zI 0), .int (zI 4), .int (zI 4)])), (d1_, iE 1 225 (fun _ => 0)), (d2_, iE 0 225 (fun _ => 0)), (d3_, iE 0 225 (fun _ => 0)), (d4_, iE 1 64 (fun _ => 0)), (wn_, .inr (7, [.ref (en 0), .int (zI 1), .int (zI 1), .int (zI 1), .int (zI 0)])), (m_, .inr (3, [.int (zI 0), .ref m0_])), (m0_, oE 4 4 (r4 m1_ m2_ m3_ m4_)), (m1_, iE 0 64 (fun _ => 0)), (m2_, iE 0 64 (fun _ => 0)), (m3_, iE 0 64 (fun _ => 0)), (m4_, iE 0 64 (fun _ => 0)), (n_, .inr (3, [.int (zI 1), .ref n0_])), (n0_, oE 4 4 (r4 n1_ n2_ n3_ n4_)), (n1_, iE 0 701 (fun _ => 0)), (n2_, iE 0 701 (fun _ => 0)), (n3_, iE 0 701 (fun _ => 0)), (n4_, iE 0 701 (fun _ => 0)), (bs_, .inr (1, [.int (zI 0), .int (zI 0), .int (zI 0), .int (zI 0)]))] ++ [(g_, iE 0 5 (fun _ => 0))]) ++ [(a_, iE 0 29 (fun _ => 0))]) ++ [(d_, iE 0 16 (fun _ => 0))]) ++ [(t_, iE 0 64 (fun _ => 0))]) ++ [(e_, iE 0 64 (fun _ => 0))] : vWd) = [(x, .inr (9, [.ref p_, .ref wk_, .ref df_, .ref wn_, .ref m_, .ref n_, .ref bs_, .int (zI 1), .int (zI 0)])), (p_, .inr (4, [.ref pl_, .int (zI 4), .int (zI 4), .int (zI 16)])), (pl_, .inr (0, [.int (zI 0), .ref (en 5), .int (zI 0)])), (wk_, .inr (8, [.ref w1_, .ref w2_, .ref w3_, .ref w4_, .ref w5_, .ref w6_, .ref w7_, .ref w8_, .ref w9_, .int (zI 0)])), (w1_, iE 0 256 (fun _ => 0)), (w2_, iE 0 256 (fun _ => 0)), (w3_, iE 0 256 (fun _ => 0)), (w4_, iE 0 256 (fun _ => 0)), (w5_, iE 0 256 (fun _ => 0)), (w6_, iE 0 256 (fun _ => 0)), (w7_, iE 0 256 (fun _ => 0)), (w8_, iE 0 158 (fun _ => 0)), (w9_, iE 0 258 (fun _ => 0)), (df_, .inr (2, [.ref d1_, .ref d2_, .ref d3_, .ref d4_, .int (zI 0), .int (zI 4), .int (zI 4)])), (d1_, iE 1 225 (fun _ => 0)), (d2_, iE 0 225 (fun _ => 0)), (d3_, iE 0 225 (fun _ => 0)), (d4_, iE 1 64 (fun _ => 0)), (wn_, .inr (7, [.ref (en 0), .int (zI 1), .int (zI 1), .int (zI 1), .int (zI 0)])), (m_, .inr (3, [.int (zI 0), .ref m0_])), (m0_, oE 4 4 (r4 m1_ m2_ m3_ m4_)), (m1_, iE 0 64 (fun _ => 0)), (m2_, iE 0 64 (fun _ => 0)), (m3_, iE 0 64 (fun _ => 0)), (m4_, iE 0 64 (fun _ => 0)), (n_, .inr (3, [.int (zI 1), .ref n0_])), (n0_, oE 4 4 (r4 n1_ n2_ n3_ n4_)), (n1_, iE 0 701 (fun _ => 0)), (n2_, iE 0 701 (fun _ => 0)), (n3_, iE 0 701 (fun _ => 0)), (n4_, iE 0 701 (fun _ => 0)), (bs_, .inr (1, [.int (zI 0), .int (zI 0), .int (zI 0), .int (zI 0)]))] ++ [(g_, iE 0 5 (fun _ => 0)), (a_, iE 0 29 (fun _ => 0)), (d_, iE 0 16 (fun _ => 0)), (t_, iE 0 64 (fun _ => 0)), (e_, iE 0 64 (fun _ => 0))] := by
      rw [List.append_assoc, List.append_assoc, List.append_assoc, List.append_assoc]
      rfl
    rw [h2]
    exact (h1.append_right _).trans List.perm_append_comm
  refine V_Perm hp ?_
  rw [hx, hg, ha, hd, ht, he]
  show V K sL_law 37 8787 _ [some (.ref sb), some (.ref (c 0)), some (.ref (b 0)), some (.ref (b 1)), some (.ref (b 2)), some (.ref (b 3)), some (.ref (b 4)), none, none, none, none, none, none] [] 35
  refine V_aload_n dL_law_35 rfl ?_
  refine V_iconst dL_law_36 ?_
  refine V_iconst dL_law_37 ?_
  refine ls_0 ⟨by decide, by decide⟩ dL_law_38 ?_
  refine V_aload_n dL_law_39 rfl ?_
  refine V_iconst dL_law_40 ?_
  refine V_iconst dL_law_41 ?_
  refine ls_0 ⟨by decide, by decide⟩ dL_law_42 ?_
  refine V_aload_n dL_law_43 rfl ?_
  refine V_iconst dL_law_44 ?_
  refine V_iconst dL_law_45 ?_
  refine ls_0 ⟨by decide, by decide⟩ dL_law_46 ?_
  refine law_run hK hLn hend b c κ0 _ [] κ0_CWP ?_
  exact ⟨⟨rfl, rfl, rfl, rfl, rfl⟩, ⟨by decide, by decide⟩, fun s _ _ => ⟨rfl, rfl, rfl, rfl, rfl, fun _ => rfl, fun _ => rfl⟩, fun s j _ _ j0 j1 => absurd j1 (Int.not_lt.mpr j0)⟩

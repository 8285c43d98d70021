/-! the law: its loop, its start -/
theorem and63 (x : Int) : ∃ z : Int, zI x &&& zI 63 = zI z ∧ 0 ≤ z ∧ z ≤ 63 := by
  have h1 : (zI x &&& zI 63).toBitVec.toNat ≤ 63 := by
    rw [Int32.toBitVec_and, BitVec.toNat_and]
    exact Nat.and_le_right
  refine ⟨(((zI x &&& zI 63).toBitVec.toNat : Nat) : Int), ?_, by omega, by omega⟩
  rw [zI_nat]
  apply Int32.toBitVec_inj.mp
  apply BitVec.eq_of_toNat_eq
  show _ = (nI ((zI x &&& zI 63).toBitVec.toNat)).toBitVec.toNat
  generalize (zI x &&& zI 63) = y at h1 ⊢
  show y.toBitVec.toNat = (BitVec.ofNat 32 y.toBitVec.toNat).toNat
  rw [BitVec.toNat_ofNat]
  omega
/-- the first state -/
def κ0 : St := fun k i => if k = 0 then (if i = 0 then 4 else if i = 1 then 4 else if i = 11 then 1 else 0) else if k = 49 then 16 else if k = 64 then (if i = 0 then 0 else 4) else if k = 40 then 1 else if k = 41 then 1 else if k = 42 then 1 else 0
theorem κ0_MI : MI κ0 := by
  have e0 : κ0 0 0 = 4 := rfl
  have e1 : κ0 0 1 = 4 := rfl
  have e2 : κ0 0 2 = 0 := rfl
  have e11 : κ0 0 11 = 1 := rfl
  have e12 : κ0 0 12 = 0 := rfl
  refine ⟨by omega, by omega, by omega, by omega, by omega, fun s _ _ => ?_, fun s j _ _ j0 j1 => ?_⟩
  · have e3 : κ0 3 s = 0 := rfl
    have e4 : κ0 4 s = 0 := rfl
    have e9 : κ0 9 s = 0 := rfl
    have e10 : κ0 10 s = 0 := rfl
    have e13 : κ0 13 s = 0 := rfl
    exact ⟨by omega, by omega, Or.inl e9, by omega, Or.inl e13, fun _ => ⟨e4, e9, e10⟩⟩
  · have e4 : κ0 4 s = 0 := rfl
    omega
theorem κ0_CWP : CWP κ0 κ0 := by
  refine ⟨⟨fun _ _ _ => rfl, rfl, fun i _ _ hl => ?_⟩, fun s a b => ?_, ?_⟩
  · unfold lsz at hl
    split at hl
    · have e2 : κ0 0 2 = 0 := rfl
      omega
    · have e4 : κ0 4 i = 0 := rfl
      omega
  · have e2 : κ0 0 2 = 0 := rfl
    omega
  · have e39 : κ0 39 4 = 0 := rfl
    have e40 : κ0 40 4 = 1 := rfl
    have e41 : κ0 41 4 = 1 := rfl
    have e42 : κ0 42 4 = 1 := rfl
    have e43 : κ0 43 4 = 0 := rfl
    unfold WB
    omega
theorem law_P3 (A B : vWd) (p q : Nat × vE) : (p :: (A ++ (q :: B))).Perm (A ++ (B ++ [q, p])) := by
  have h1 : (p :: (A ++ (q :: B))).Perm ((A ++ (q :: B)) ++ [p]) := List.perm_append_comm (l₁ := [p])
  have h2 : ((A ++ (q :: B)) ++ [p]).Perm ((A ++ (B ++ [q])) ++ [p]) := (List.Perm.append_left A (List.perm_append_comm (l₁ := [q]) (l₂ := B))).append_right [p]
  refine h1.trans (h2.trans ?_)
  rw [List.append_assoc, List.append_assoc]
  exact List.Perm.refl _
theorem kA_r4 (c : Nat → Nat) (m : Int) : kA c m = r4 (c (20 + 6 * m.toNat)) (c (21 + 6 * m.toNat)) (c (22 + 6 * m.toNat)) (c (23 + 6 * m.toNat)) := by
  funext j
  unfold kA r4
  by_cases h : 0 ≤ j ∧ j < 4
  · rw [if_pos h]
    rcases (show j = 0 ∨ j = 1 ∨ j = 2 ∨ j = 3 by omega) with rfl | rfl | rfl | rfl
    · rfl
    · rw [if_neg (by decide), if_pos rfl]; exact congrArg (fun z => some (c z)) (by omega)
    · rw [if_neg (by decide), if_neg (by decide), if_pos rfl]; exact congrArg (fun z => some (c z)) (by omega)
    · rw [if_neg (by decide), if_neg (by decide), if_neg (by decide), if_pos rfl]; exact congrArg (fun z => some (c z)) (by omega)
  · rw [if_neg h, if_neg (by omega), if_neg (by omega), if_neg (by omega), if_neg (by omega)]
set_option maxRecDepth 100000 in
set_option maxHeartbeats 4000000 in
theorem law_loop {K : KT} {en a : Nat → Nat} {o b Ln : Nat} {xs : Nat → Int32} (hK : evK K = EX en) (hX : scK K b Ln xs) (hL : Ln ≤ 3072) (hend : ∀ (k n : Nat) (ws : vWd) (L : List (Option Value)), k ≤ 601024 → n ≤ 7293034 → V K sL_law k n ws L [.int (zI 1)] 2695) : ∀ (m it : Nat) (c : Nat → Nat) (κ σ P : St) (g : Nat → Int64) (i : Int), Ln + 6 ≤ 6 * it + m → i = 6 * (it : Int) → it ≤ 513 → MI P → CWP P κ → PR P σ → V K sL_law (55 + 8 * it) (13536 + 50 * it) (wL3 en c a κ σ o g) [some (.ref b), some (.ref (c 0)), some (.ref (a 0)), some (.ref o), some (.int (zI i)), none, none] [] 23 := by
  intro m
  induction m with
  | zero =>
    intro it c κ σ P g i hm hi hit hM hC hP
    refine V_iload dL_law_23 rfl ?_
    refine V_aload_n dL_law_25 rfl ?_
    refine V_slen hX dL_law_26 ?_
    refine V_bipush dL_law_27 (by decide) ?_
    refine V_isub dL_law_29 ?_
    refine V_icmp_gt (tgt := 2694) dL_law_30 (by decide) ⟨⟨by omega, by omega⟩, ⟨by omega, by omega⟩⟩ (fun _ => ?_) (fun h => absurd h (by omega))
    refine V_iconst dL_law_2694 ?_
    exact hend _ _ _ _ (by omega) (by omega)
  | succ m ih =>
    intro it c κ σ P g i hm hi hit hM hC hP
    refine V_iload dL_law_23 rfl ?_
    refine V_aload_n dL_law_25 rfl ?_
    refine V_slen hX dL_law_26 ?_
    refine V_bipush dL_law_27 (by decide) ?_
    refine V_isub dL_law_29 ?_
    refine V_icmp_gt (tgt := 2694) dL_law_30 (by decide) ⟨⟨by omega, by omega⟩, ⟨by omega, by omega⟩⟩ (fun _ => ?_) (fun hc => ?_)
    · refine V_iconst dL_law_2694 ?_
      exact hend _ _ _ _ (by omega) (by omega)
    have hi2 : 0 ≤ i ∧ i + 6 ≤ (Ln : Int) := ⟨by omega, by omega⟩
    have hkk : 55 + 8 * it + 8 ≤ 601024 := by omega
    have hnn : 13536 + 50 * it + 50 ≤ 7293034 := by omega
    have hnext : ∀ (c2 : Nat → Nat) (κ2 σ2 P2 : St) (g2 : Nat → Int64), c2 0 = c 0 → MI P2 → CWP P2 κ2 → PR P2 σ2 → V K sL_law (55 + 8 * it + 8) (13536 + 50 * it + 50) (wL3 en c2 a κ2 σ2 o g2) [some (.ref b), some (.ref (c 0)), some (.ref (a 0)), some (.ref o), some (.int (zI i)), none, none] [] 2688 := by
      intro c2 κ2 σ2 P2 g2 e hM2 hC2 hP2
      refine V_iinc (L' := [some (.ref b), some (.ref (c 0)), some (.ref (a 0)), some (.ref o), some (.int (zI (i + 6))), none, none]) dL_law_2688 (by decide) rfl rfl ?_
      refine V_goto (tgt := 23) dL_law_2691 (by decide) ?_
      rw [← e]
      refine V_widen (k' := 55 + 8 * (it + 1)) (n' := 13536 + 50 * (it + 1)) (by omega) (by omega) ?_
      exact ih (it + 1) c2 κ2 σ2 P2 g2 (i + 6) (by omega) (by omega) (by omega) hM2 hC2 hP2
    refine V_aload_n dL_law_33 rfl ?_
    refine V_iload dL_law_34 rfl ?_
    refine V_sld hX ⟨by omega, by omega⟩ hL dL_law_36 ?_
    refine V_bipush dL_law_37 (by decide) ?_
    refine V_iand dL_law_39 ?_
    obtain ⟨z, hz, hz0, hz1⟩ := and63 (sc xs i)
    refine V_eqT hz ?_
    rcases (show z = 0 ∨ z = 1 ∨ z = 2 ∨ z = 3 ∨ z = 4 ∨ z = 5 ∨ z = 6 ∨ z = 7 ∨ z = 8 ∨ z = 9 ∨ z = 10 ∨ z = 11 ∨ z = 12 ∨ z = 13 ∨ z = 14 ∨ z = 15 ∨ z = 16 ∨ z = 17 ∨ z = 18 ∨ z = 19 ∨ z = 20 ∨ z = 21 ∨ z = 22 ∨ z = 23 ∨ z = 24 ∨ z = 25 ∨ z = 26 ∨ z = 27 ∨ z = 28 ∨ z = 29 ∨ z = 30 ∨ z = 31 ∨ z = 32 ∨ z = 33 ∨ z = 34 ∨ z = 35 ∨ z = 36 ∨ z = 37 ∨ z = 38 ∨ z = 39 ∨ z = 40 ∨ z = 41 ∨ 41 < z by omega) with hq | hq | hq | hq | hq | hq | hq | hq | hq | hq | hq | hq | hq | hq | hq | hq | hq | hq | hq | hq | hq | hq | hq | hq | hq | hq | hq | hq | hq | hq | hq | hq | hq | hq | hq | hq | hq | hq | hq | hq | hq | hq | hq
    · refine V_tableIn (tgt := 224) dL_law_40 ⟨by omega, by omega⟩ (by omega) (by omega) (by rw [hq]; rfl) (by decide) ?_
      exact law_addStatement hK hX hL hi2 hkk hnn hM hC hP hnext
    · refine V_tableIn (tgt := 280) dL_law_40 ⟨by omega, by omega⟩ (by omega) (by omega) (by rw [hq]; rfl) (by decide) ?_
      exact law_addRead hK hX hL hi2 hkk hnn hM hC hP hnext
    · refine V_tableIn (tgt := 384) dL_law_40 ⟨by omega, by omega⟩ (by omega) (by omega) (by rw [hq]; rfl) (by decide) ?_
      exact law_dropReads hK hX hL hi2 hkk hnn hM hC hP hnext
    · refine V_tableIn (tgt := 440) dL_law_40 ⟨by omega, by omega⟩ (by omega) (by omega) (by rw [hq]; rfl) (by decide) ?_
      exact law_setLasting hK hX hL hi2 hkk hnn hM hC hP hnext
    · refine V_tableIn (tgt := 531) dL_law_40 ⟨by omega, by omega⟩ (by omega) (by omega) (by rw [hq]; rfl) (by decide) ?_
      exact law_setField hK hX hL hi2 hkk hnn hM hC hP hnext
    · refine V_tableIn (tgt := 599) dL_law_40 ⟨by omega, by omega⟩ (by omega) (by omega) (by rw [hq]; rfl) (by decide) ?_
      exact law_setSchedule hK hX hL hi2 hkk hnn hM hC hP hnext
    · refine V_tableIn (tgt := 674) dL_law_40 ⟨by omega, by omega⟩ (by omega) (by omega) (by rw [hq]; rfl) (by decide) ?_
      exact law_setOffset hK hX hL hi2 hkk hnn hM hC hP hnext
    · refine V_tableIn (tgt := 749) dL_law_40 ⟨by omega, by omega⟩ (by omega) (by omega) (by rw [hq]; rfl) (by decide) ?_
      exact law_isAllowed hK hX hL hi2 hkk hnn hM hC hP hnext
    · refine V_tableIn (tgt := 762) dL_law_40 ⟨by omega, by omega⟩ (by omega) (by omega) (by rw [hq]; rfl) (by decide) ?_
      exact law_isAllowedWith hK hX hL hi2 hkk hnn hM hC hP hnext
    · refine V_tableIn (tgt := 837) dL_law_40 ⟨by omega, by omega⟩ (by omega) (by omega) (by rw [hq]; rfl) (by decide) ?_
      exact law_isReadInOrder hK hX hL hi2 hkk hnn hM hC hP hnext
    · refine V_tableIn (tgt := 912) dL_law_40 ⟨by omega, by omega⟩ (by omega) (by omega) (by rw [hq]; rfl) (by decide) ?_
      exact law_steps hK hX hL hi2 hkk hnn hM hC hP hnext
    · refine V_tableIn (tgt := 925) dL_law_40 ⟨by omega, by omega⟩ (by omega) (by omega) (by rw [hq]; rfl) (by decide) ?_
      exact law_stepOf hK hX hL hi2 hkk hnn hM hC hP hnext
    · refine V_tableIn (tgt := 1005) dL_law_40 ⟨by omega, by omega⟩ (by omega) (by omega) (by rw [hq]; rfl) (by decide) ?_
      exact law_statementAt hK hX hL hi2 hkk hnn hM hC hP hnext
    · refine V_tableIn (tgt := 1061) dL_law_40 ⟨by omega, by omega⟩ (by omega) (by omega) (by rw [hq]; rfl) (by decide) ?_
      exact law_pointAt hK hX hL hi2 hkk hnn hM hC hP hnext
    · refine V_tableIn (tgt := 1117) dL_law_40 ⟨by omega, by omega⟩ (by omega) (by omega) (by rw [hq]; rfl) (by decide) ?_
      exact law_endOf hK hX hL hi2 hkk hnn hM hC hP hnext
    · refine V_tableIn (tgt := 1197) dL_law_40 ⟨by omega, by omega⟩ (by omega) (by omega) (by rw [hq]; rfl) (by decide) ?_
      exact law_liveAt hK hX hL hi2 hkk hnn hM hC hP hnext
    · refine V_tableIn (tgt := 1253) dL_law_40 ⟨by omega, by omega⟩ (by omega) (by omega) (by rw [hq]; rfl) (by decide) ?_
      exact law_mostLive hK hX hL hi2 hkk hnn hM hC hP hnext
    · refine V_tableIn (tgt := 1266) dL_law_40 ⟨by omega, by omega⟩ (by omega) (by omega) (by rw [hq]; rfl) (by decide) ?_
      exact law_mostLiveOf hK hX hL hi2 hkk hnn hM hC hP hnext
    · refine V_tableIn (tgt := 1322) dL_law_40 ⟨by omega, by omega⟩ (by omega) (by omega) (by rw [hq]; rfl) (by decide) ?_
      exact law_conflictsOf hK hX hL hi2 hkk hnn hM hC hP hnext
    · refine V_tableIn (tgt := 1414) dL_law_40 ⟨by omega, by omega⟩ (by omega) (by omega) (by rw [hq]; rfl) (by decide) ?_
      exact law_conflictPairs hK hX hL hi2 hkk hnn hM hC hP hnext
    · refine V_tableIn (tgt := 1470) dL_law_40 ⟨by omega, by omega⟩ (by omega) (by omega) (by rw [hq]; rfl) (by decide) ?_
      exact law_keepWhole hK hX hL hi2 hkk hnn hM hC hP hnext
    · refine V_tableIn (tgt := 1526) dL_law_40 ⟨by omega, by omega⟩ (by omega) (by omega) (by rw [hq]; rfl) (by decide) ?_
      exact law_keepRest hK hX hL hi2 hkk hnn hM hC hP hnext
    · refine V_tableIn (tgt := 1594) dL_law_40 ⟨by omega, by omega⟩ (by omega) (by omega) (by rw [hq]; rfl) (by decide) ?_
      exact law_keepTwoRests hK hX hL hi2 hkk hnn hM hC hP hnext
    · refine V_tableIn (tgt := 1674) dL_law_40 ⟨by omega, by omega⟩ (by omega) (by omega) (by rw [hq]; rfl) (by decide) ?_
      exact law_keepSlant hK hX hL hi2 hkk hnn hM hC hP hnext
    · refine V_tableIn (tgt := 1754) dL_law_40 ⟨by omega, by omega⟩ (by omega) (by omega) (by rw [hq]; rfl) (by decide) ?_
      exact law_contract hK hX hL hi2 hkk hnn hM hC hP hnext
    · refine V_tableIn (tgt := 1767) dL_law_40 ⟨by omega, by omega⟩ (by omega) (by omega) (by rw [hq]; rfl) (by decide) ?_
      exact law_windowSize hK hX hL hi2 hkk hnn hM hC hP hnext
    · refine V_tableIn (tgt := 1823) dL_law_40 ⟨by omega, by omega⟩ (by omega) (by omega) (by rw [hq]; rfl) (by decide) ?_
      exact law_room hK hX hL hi2 hkk hnn hM hC hP hnext
    · refine V_tableIn (tgt := 1836) dL_law_40 ⟨by omega, by omega⟩ (by omega) (by omega) (by rw [hq]; rfl) (by decide) ?_
      exact law_placeOf hK hX hL hi2 hkk hnn hM hC hP hnext
    · refine V_tableIn (tgt := 1916) dL_law_40 ⟨by omega, by omega⟩ (by omega) (by omega) (by rw [hq]; rfl) (by decide) ?_
      exact law_isRight hK hX hL hi2 hkk hnn hM hC hP hnext
    · refine V_tableIn (tgt := 1979) dL_law_40 ⟨by omega, by omega⟩ (by omega) (by omega) (by rw [hq]; rfl) (by decide) ?_
      exact law_leastRest hK hX hL hi2 hkk hnn hM hC hP hnext
    · refine V_tableIn (tgt := 2035) dL_law_40 ⟨by omega, by omega⟩ (by omega) (by omega) (by rw [hq]; rfl) (by decide) ?_
      exact law_leastRestByDifferences hK hX hL hi2 hkk hnn hM hC hP hnext
    · refine V_tableIn (tgt := 2091) dL_law_40 ⟨by omega, by omega⟩ (by omega) (by omega) (by rw [hq]; rfl) (by decide) ?_
      exact law_leastRowRest hK hX hL hi2 hkk hnn hM hC hP hnext
    · refine V_tableIn (tgt := 2147) dL_law_40 ⟨by omega, by omega⟩ (by omega) (by omega) (by rw [hq]; rfl) (by decide) ?_
      exact law_leastColumnRest hK hX hL hi2 hkk hnn hM hC hP hnext
    · refine V_tableIn (tgt := 2203) dL_law_40 ⟨by omega, by omega⟩ (by omega) (by omega) (by rw [hq]; rfl) (by decide) ?_
      exact law_leastSlantModulus hK hX hL hi2 hkk hnn hM hC hP hnext
    · refine V_tableIn (tgt := 2259) dL_law_40 ⟨by omega, by omega⟩ (by omega) (by omega) (by rw [hq]; rfl) (by decide) ?_
      exact law_leastSlant hK hX hL hi2 hkk hnn hM hC hP hnext
    · refine V_tableIn (tgt := 2315) dL_law_40 ⟨by omega, by omega⟩ (by omega) (by omega) (by rw [hq]; rfl) (by decide) ?_
      exact law_leastJointRest hK hX hL hi2 hkk hnn hM hC hP hnext
    · refine V_tableIn (tgt := 2383) dL_law_40 ⟨by omega, by omega⟩ (by omega) (by omega) (by rw [hq]; rfl) (by decide) ?_
      exact law_valueOf hK hX hL hi2 hkk hnn hM hC hP hnext
    · refine V_tableIn (tgt := 2463) dL_law_40 ⟨by omega, by omega⟩ (by omega) (by omega) (by rw [hq]; rfl) (by decide) ?_
      exact law_contractedValueOf hK hX hL hi2 hkk hnn hM hC hP hnext
    · refine V_tableIn (tgt := 2543) dL_law_40 ⟨by omega, by omega⟩ (by omega) (by omega) (by rw [hq]; rfl) (by decide) ?_
      exact law_firstWrongStep hK hX hL hi2 hkk hnn hM hC hP hnext
    · refine V_tableIn (tgt := 2556) dL_law_40 ⟨by omega, by omega⟩ (by omega) (by omega) (by rw [hq]; rfl) (by decide) ?_
      exact law_bestRowWeight hK hX hL hi2 hkk hnn hM hC hP hnext
    · refine V_tableIn (tgt := 2600) dL_law_40 ⟨by omega, by omega⟩ (by omega) (by omega) (by rw [hq]; rfl) (by decide) ?_
      exact law_bestColumnWeight hK hX hL hi2 hkk hnn hM hC hP hnext
    · refine V_tableIn (tgt := 2644) dL_law_40 ⟨by omega, by omega⟩ (by omega) (by omega) (by rw [hq]; rfl) (by decide) ?_
      exact law_bestRoom hK hX hL hi2 hkk hnn hM hC hP hnext
    · refine V_tableOut (tgt := 2688) dL_law_40 ⟨by omega, by omega⟩ (Or.inr hq) (by decide) ?_
      refine V_widen (k' := 55 + 8 * it + 8) (n' := 13536 + 50 * it + 50) (by omega) (by omega) ?_
      exact hnext c κ σ P g rfl hM hC hP
set_option maxRecDepth 100000 in
set_option maxHeartbeats 4000000 in
theorem law_begin {K : KT} {en : Nat → Nat} {b Ln : Nat} {xs : Nat → Int32} (hK : evK K = EX en) (hX : scK K b Ln xs) (hL : Ln ≤ 3072) (hend : ∀ (k n : Nat) (ws : vWd) (L : List (Option Value)), k ≤ 601024 → n ≤ 7293034 → V K sL_law k n ws L [.int (zI 1)] 2695) : V K sL_law 0 0 [] [some (.ref b), none, none, none, none, none, none] [] 0 := by
  refine V_new (C0 := RX10) (T := TX10) (N := 9) (ci := 9) (fs := [.null, .null, .null, .null, .null, .null, .null, .int (zI 0), .int (zI 0)]) iwX10 tyX10 tyX10_ok w29 w30 w1 rfl (fun j hj => by rcases (show j = 0 ∨ j = 1 ∨ j = 2 ∨ j = 3 ∨ j = 4 ∨ j = 5 ∨ j = 6 ∨ j = 7 ∨ j = 8 by omega) with rfl | rfl | rfl | rfl | rfl | rfl | rfl | rfl | rfl <;> rfl) ⟨Nat.le_of_ble_eq_true rfl, Nat.le_of_ble_eq_true rfl⟩ dL_law_0 (fun x => ?_)
  show V K sL_law 1 9 [(x, .inr (9, [.null, .null, .null, .null, .null, .null, .null, .int (zI 0), .int (zI 0)]))] [some (.ref b), none, none, none, none, none, none] [.ref x] 3
  refine V_dup dL_law_3 rfl ?_
  refine V_callIB (As := []) (b := x) (wr := []) (wc := [(x, .inr (9, [.null, .null, .null, .null, .null, .null, .null, .int (zI 0), .int (zI 0)]))]) rfl hK (MC.env EX.en (k_w10_init en x)) mokX10_init w31 w32 rfl rfl ⟨Nat.le_of_ble_eq_true rfl, Nat.le_of_ble_eq_true rfl⟩ rfl (Nat.le_of_ble_eq_true rfl) ⟨Nat.le_of_ble_eq_true rfl, Nat.le_of_ble_eq_true rfl⟩ dL_law_4 (fun v w h => ?_)
  obtain ⟨p_, pl_, wk_, w1_, w2_, w3_, w4_, w5_, w6_, w7_, w8_, w9_, df_, d1_, d2_, d3_, d4_, wn_, m_, m0_, m1_, m2_, m3_, m4_, n_, n0_, n1_, n2_, n3_, n4_, bs_, rfl, rfl⟩ := h
  show V K sL_law 32 8609 [(x, .inr (9, [.ref p_, .ref wk_, .ref df_, .ref wn_, .ref m_, .ref n_, .ref bs_, .int (zI 1), .int (zI 0)])), (p_, .inr (4, [.ref pl_, .int (zI 4), .int (zI 4), .int (zI 16)])), (pl_, .inr (0, [.int (zI 0), .ref (en 5), .int (zI 0)])), (wk_, .inr (8, [.ref w1_, .ref w2_, .ref w3_, .ref w4_, .ref w5_, .ref w6_, .ref w7_, .ref w8_, .ref w9_, .int (zI 0)])), (w1_, iE 0 256 (fun _ => 0)), (w2_, iE 0 256 (fun _ => 0)), (w3_, iE 0 256 (fun _ => 0)), (w4_, iE 0 256 (fun _ => 0)), (w5_, iE 0 256 (fun _ => 0)), (w6_, iE 0 256 (fun _ => 0)), (w7_, iE 0 256 (fun _ => 0)), (w8_, iE 0 158 (fun _ => 0)), (w9_, iE 0 258 (fun _ => 0)), (df_, .inr (2, [.ref d1_, .ref d2_, .ref d3_, .ref d4_, .int (zI 0), .int (zI 4), .int (zI 4)])), (d1_, iE 1 225 (fun _ => 0)), (d2_, iE 0 225 (fun _ => 0)), (d3_, iE 0 225 (fun _ => 0)), (d4_, iE 1 64 (fun _ => 0)), (wn_, .inr (7, [.ref (en 0), .int (zI 1), .int (zI 1), .int (zI 1), .int (zI 0)])), (m_, .inr (3, [.int (zI 0), .ref m0_])), (m0_, oE 4 4 (r4 m1_ m2_ m3_ m4_)), (m1_, iE 0 64 (fun _ => 0)), (m2_, iE 0 64 (fun _ => 0)), (m3_, iE 0 64 (fun _ => 0)), (m4_, iE 0 64 (fun _ => 0)), (n_, .inr (3, [.int (zI 1), .ref n0_])), (n0_, oE 4 4 (r4 n1_ n2_ n3_ n4_)), (n1_, iE 0 701 (fun _ => 0)), (n2_, iE 0 701 (fun _ => 0)), (n3_, iE 0 701 (fun _ => 0)), (n4_, iE 0 701 (fun _ => 0)), (bs_, .inr (1, [.int (zI 0), .int (zI 0), .int (zI 0), .int (zI 0)]))] [some (.ref b), none, none, none, none, none, none] [.ref x] 7
  refine V_astore_n (L' := [some (.ref b), some (.ref x), none, none, none, none, none]) dL_law_7 (by decide) rfl ?_
  refine V_new (C0 := RX11) (T := TX11) (N := 30) (ci := 10) (fs := [.int (zI 0), .int (zI 0), .int (zI 0), .null, .null, .null, .null, .null, .null, .null, .null, .int (zI 0), .int (zI 0), .null, .null, .null, .null, .null, .null, .null, .null, .null, .null, .null, .null, .null, .int (zI 0), .int (zI 0), .int (zI 0), .int (zI 0)]) iwX11 tyX11 tyX11_ok w1064 w1065 w13 rfl (fun j hj => by rcases (show j = 0 ∨ j = 1 ∨ j = 2 ∨ j = 3 ∨ j = 4 ∨ j = 5 ∨ j = 6 ∨ j = 7 ∨ j = 8 ∨ j = 9 ∨ j = 10 ∨ j = 11 ∨ j = 12 ∨ j = 13 ∨ j = 14 ∨ j = 15 ∨ j = 16 ∨ j = 17 ∨ j = 18 ∨ j = 19 ∨ j = 20 ∨ j = 21 ∨ j = 22 ∨ j = 23 ∨ j = 24 ∨ j = 25 ∨ j = 26 ∨ j = 27 ∨ j = 28 ∨ j = 29 by omega) with rfl | rfl | rfl | rfl | rfl | rfl | rfl | rfl | rfl | rfl | rfl | rfl | rfl | rfl | rfl | rfl | rfl | rfl | rfl | rfl | rfl | rfl | rfl | rfl | rfl | rfl | rfl | rfl | rfl | rfl <;> rfl) ⟨Nat.le_of_ble_eq_true rfl, Nat.le_of_ble_eq_true rfl⟩ dL_law_8 (fun m => ?_)
  refine V_dup dL_law_11 rfl ?_
  refine V_callIB (As := []) (b := m) (wr := [(x, .inr (9, [.ref p_, .ref wk_, .ref df_, .ref wn_, .ref m_, .ref n_, .ref bs_, .int (zI 1), .int (zI 0)])), (p_, .inr (4, [.ref pl_, .int (zI 4), .int (zI 4), .int (zI 16)])), (pl_, .inr (0, [.int (zI 0), .ref (en 5), .int (zI 0)])), (wk_, .inr (8, [.ref w1_, .ref w2_, .ref w3_, .ref w4_, .ref w5_, .ref w6_, .ref w7_, .ref w8_, .ref w9_, .int (zI 0)])), (w1_, iE 0 256 (fun _ => 0)), (w2_, iE 0 256 (fun _ => 0)), (w3_, iE 0 256 (fun _ => 0)), (w4_, iE 0 256 (fun _ => 0)), (w5_, iE 0 256 (fun _ => 0)), (w6_, iE 0 256 (fun _ => 0)), (w7_, iE 0 256 (fun _ => 0)), (w8_, iE 0 158 (fun _ => 0)), (w9_, iE 0 258 (fun _ => 0)), (df_, .inr (2, [.ref d1_, .ref d2_, .ref d3_, .ref d4_, .int (zI 0), .int (zI 4), .int (zI 4)])), (d1_, iE 1 225 (fun _ => 0)), (d2_, iE 0 225 (fun _ => 0)), (d3_, iE 0 225 (fun _ => 0)), (d4_, iE 1 64 (fun _ => 0)), (wn_, .inr (7, [.ref (en 0), .int (zI 1), .int (zI 1), .int (zI 1), .int (zI 0)])), (m_, .inr (3, [.int (zI 0), .ref m0_])), (m0_, oE 4 4 (r4 m1_ m2_ m3_ m4_)), (m1_, iE 0 64 (fun _ => 0)), (m2_, iE 0 64 (fun _ => 0)), (m3_, iE 0 64 (fun _ => 0)), (m4_, iE 0 64 (fun _ => 0)), (n_, .inr (3, [.int (zI 1), .ref n0_])), (n0_, oE 4 4 (r4 n1_ n2_ n3_ n4_)), (n1_, iE 0 701 (fun _ => 0)), (n2_, iE 0 701 (fun _ => 0)), (n3_, iE 0 701 (fun _ => 0)), (n4_, iE 0 701 (fun _ => 0)), (bs_, .inr (1, [.int (zI 0), .int (zI 0), .int (zI 0), .int (zI 0)]))]) (wc := [(m, .inr (10, [.int (zI 0), .int (zI 0), .int (zI 0), .null, .null, .null, .null, .null, .null, .null, .null, .int (zI 0), .int (zI 0), .null, .null, .null, .null, .null, .null, .null, .null, .null, .null, .null, .null, .null, .int (zI 0), .int (zI 0), .int (zI 0), .int (zI 0)]))]) rfl hK (S' := sX11_initA) (MC.env EX.en (k_w11_init en m)) mokX11_init w1066 w1067 rfl rfl ⟨Nat.le_of_ble_eq_true rfl, Nat.le_of_ble_eq_true rfl⟩ rfl (Nat.le_of_ble_eq_true rfl) ⟨Nat.le_of_ble_eq_true rfl, Nat.le_of_ble_eq_true rfl⟩ dL_law_12 (fun v w h => ?_)
  obtain ⟨r3_, r4_, r5_, r6_, r7_, r8_, r9_, r10_, r13_, r14_, r15_, r16_, r17_, r18_, r19_, r20_, r21_, r22_, r23_, r24_, r25_, rfl, rfl⟩ := h
  show V K sL_law 54 13535 ([(x, .inr (9, [.ref p_, .ref wk_, .ref df_, .ref wn_, .ref m_, .ref n_, .ref bs_, .int (zI 1), .int (zI 0)])), (p_, .inr (4, [.ref pl_, .int (zI 4), .int (zI 4), .int (zI 16)])), (pl_, .inr (0, [.int (zI 0), .ref (en 5), .int (zI 0)])), (wk_, .inr (8, [.ref w1_, .ref w2_, .ref w3_, .ref w4_, .ref w5_, .ref w6_, .ref w7_, .ref w8_, .ref w9_, .int (zI 0)])), (w1_, iE 0 256 (fun _ => 0)), (w2_, iE 0 256 (fun _ => 0)), (w3_, iE 0 256 (fun _ => 0)), (w4_, iE 0 256 (fun _ => 0)), (w5_, iE 0 256 (fun _ => 0)), (w6_, iE 0 256 (fun _ => 0)), (w7_, iE 0 256 (fun _ => 0)), (w8_, iE 0 158 (fun _ => 0)), (w9_, iE 0 258 (fun _ => 0)), (df_, .inr (2, [.ref d1_, .ref d2_, .ref d3_, .ref d4_, .int (zI 0), .int (zI 4), .int (zI 4)])), (d1_, iE 1 225 (fun _ => 0)), (d2_, iE 0 225 (fun _ => 0)), (d3_, iE 0 225 (fun _ => 0)), (d4_, iE 1 64 (fun _ => 0)), (wn_, .inr (7, [.ref (en 0), .int (zI 1), .int (zI 1), .int (zI 1), .int (zI 0)])), (m_, .inr (3, [.int (zI 0), .ref m0_])), (m0_, oE 4 4 (r4 m1_ m2_ m3_ m4_)), (m1_, iE 0 64 (fun _ => 0)), (m2_, iE 0 64 (fun _ => 0)), (m3_, iE 0 64 (fun _ => 0)), (m4_, iE 0 64 (fun _ => 0)), (n_, .inr (3, [.int (zI 1), .ref n0_])), (n0_, oE 4 4 (r4 n1_ n2_ n3_ n4_)), (n1_, iE 0 701 (fun _ => 0)), (n2_, iE 0 701 (fun _ => 0)), (n3_, iE 0 701 (fun _ => 0)), (n4_, iE 0 701 (fun _ => 0)), (bs_, .inr (1, [.int (zI 0), .int (zI 0), .int (zI 0), .int (zI 0)]))] ++ [(m, .inr (10, [.int (zI 4), .int (zI 4), .int (zI 0), .ref r3_, .ref r4_, .ref r5_, .ref r6_, .ref r7_, .ref r8_, .ref r9_, .ref r10_, .int (zI 1), .int (zI 0), .ref r13_, .ref r14_, .ref r15_, .ref r16_, .ref r17_, .ref r18_, .ref r19_, .ref r20_, .ref r21_, .ref r22_, .ref r23_, .ref r24_, .ref r25_, .int (zI 0), .int (zI 0), .int (zI 0), .int (zI 0)])), (r3_, iE 0 4 (fun _ => 0)), (r4_, iE 0 4 (fun _ => 0)), (r5_, iE 0 16 (fun _ => 0)), (r6_, iE 0 16 (fun _ => 0)), (r7_, iE 0 16 (fun _ => 0)), (r8_, iE 0 16 (fun _ => 0)), (r9_, iE 1 4 (fun _ => 0)), (r10_, iE 0 4 (fun _ => 0)), (r13_, iE 0 4 (fun _ => 0)), (r14_, iE 0 4 (fun _ => 0)), (r15_, iE 0 4 (fun _ => 0)), (r16_, iE 0 161 (fun _ => 0)), (r17_, iE 0 256 (fun _ => 0)), (r18_, iE 0 256 (fun _ => 0)), (r19_, iE 0 256 (fun _ => 0)), (r20_, iE 0 256 (fun _ => 0)), (r21_, iE 0 2816 (fun _ => 0)), (r22_, iE 0 256 (fun _ => 0)), (r23_, iE 0 258 (fun _ => 0)), (r24_, iE 1 225 (fun _ => 0)), (r25_, iE 1 64 (fun _ => 0))]) [some (.ref b), some (.ref x), none, none, none, none, none] [.ref m] 15
  refine V_astore_n (L' := [some (.ref b), some (.ref x), some (.ref m), none, none, none, none]) dL_law_15 (by decide) rfl ?_
  refine V_iconst dL_law_16 ?_
  refine V_newa_l (N := 1) w1494 rfl (by decide) ⟨Nat.le_of_ble_eq_true rfl, Nat.le_of_ble_eq_true rfl⟩ dL_law_17 (fun o => ?_)
  refine V_astore_n (L' := [some (.ref b), some (.ref x), some (.ref m), some (.ref o), none, none, none]) dL_law_19 (by decide) rfl ?_
  refine V_iconst dL_law_20 ?_
  refine V_istore (L' := [some (.ref b), some (.ref x), some (.ref m), some (.ref o), some (.int (zI 0)), none, none]) dL_law_21 (by decide) rfl ?_
  obtain ⟨c, hc⟩ : ∃ c : Nat → Nat, c = (fun k => match k with
    | 0 => x
    | 1 => p_
    | 2 => wk_
    | 3 => w1_
    | 4 => w2_
    | 5 => w3_
    | 6 => w4_
    | 7 => w5_
    | 8 => w6_
    | 9 => w7_
    | 10 => w8_
    | 11 => w9_
    | 12 => df_
    | 13 => d1_
    | 14 => d2_
    | 15 => d3_
    | 16 => d4_
    | 18 => m_
    | 19 => m0_
    | 20 => m1_
    | 21 => m2_
    | 22 => m3_
    | 23 => m4_
    | 24 => n_
    | 25 => n0_
    | 26 => n1_
    | 27 => n2_
    | 28 => n3_
    | 29 => n4_
    | 30 => bs_
    | 66 => wn_
    | 67 => pl_
    | _ => 0) := ⟨_, rfl⟩
  obtain ⟨a, ha⟩ : ∃ a : Nat → Nat, a = (fun k => match k with
    | 0 => m
    | 3 => r3_
    | 4 => r4_
    | 5 => r5_
    | 6 => r6_
    | 7 => r7_
    | 8 => r8_
    | 9 => r9_
    | 10 => r10_
    | 13 => r13_
    | 14 => r14_
    | 15 => r15_
    | 16 => r16_
    | 17 => r17_
    | 18 => r18_
    | 19 => r19_
    | 20 => r20_
    | 21 => r21_
    | 22 => r22_
    | 23 => r23_
    | 24 => r24_
    | 25 => r25_
    | _ => 0) := ⟨_, rfl⟩
  have e1 : fm (cO en c κ0) = [(x, .inr (9, [.ref p_, .ref wk_, .ref df_, .ref wn_, .ref m_, .ref n_, .ref bs_, .int (zI 1), .int (zI 0)])), (p_, .inr (4, [.ref pl_, .int (zI 4), .int (zI 4), .int (zI 16)])), (wk_, .inr (8, [.ref w1_, .ref w2_, .ref w3_, .ref w4_, .ref w5_, .ref w6_, .ref w7_, .ref w8_, .ref w9_, .int (zI 0)])), (w1_, iE 0 256 (fun _ => 0)), (w2_, iE 0 256 (fun _ => 0)), (w3_, iE 0 256 (fun _ => 0)), (w4_, iE 0 256 (fun _ => 0)), (w5_, iE 0 256 (fun _ => 0)), (w6_, iE 0 256 (fun _ => 0)), (w7_, iE 0 256 (fun _ => 0)), (w8_, iE 0 158 (fun _ => 0)), (w9_, iE 0 258 (fun _ => 0)), (df_, .inr (2, [.ref d1_, .ref d2_, .ref d3_, .ref d4_, .int (zI 0), .int (zI 4), .int (zI 4)])), (d1_, iE 1 225 (fun _ => 0)), (d2_, iE 0 225 (fun _ => 0)), (d3_, iE 0 225 (fun _ => 0)), (d4_, iE 1 64 (fun _ => 0)), (m_, .inr (3, [.int (zI 0), .ref m0_])), (m0_, oE 4 4 (r4 m1_ m2_ m3_ m4_)), (m1_, iE 0 64 (fun _ => 0)), (m2_, iE 0 64 (fun _ => 0)), (m3_, iE 0 64 (fun _ => 0)), (m4_, iE 0 64 (fun _ => 0)), (n_, .inr (3, [.int (zI 1), .ref n0_])), (n0_, oE 4 4 (r4 n1_ n2_ n3_ n4_)), (n1_, iE 0 701 (fun _ => 0)), (n2_, iE 0 701 (fun _ => 0)), (n3_, iE 0 701 (fun _ => 0)), (n4_, iE 0 701 (fun _ => 0)), (bs_, .inr (1, [.int (zI 0), .int (zI 0), .int (zI 0), .int (zI 0)])), (wn_, .inr (7, [.ref (en 0), .int (zI 1), .int (zI 1), .int (zI 1), .int (zI 0)])), (pl_, .inr (0, [.int (zI 0), .ref (en 5), .int (zI 0)]))] := by
    subst hc
    unfold cO
    rw [kA_r4, kA_r4]
    rfl
  have e2 : mW a κ0 = [(m, .inr (10, [.int (zI 4), .int (zI 4), .int (zI 0), .ref r3_, .ref r4_, .ref r5_, .ref r6_, .ref r7_, .ref r8_, .ref r9_, .ref r10_, .int (zI 1), .int (zI 0), .ref r13_, .ref r14_, .ref r15_, .ref r16_, .ref r17_, .ref r18_, .ref r19_, .ref r20_, .ref r21_, .ref r22_, .ref r23_, .ref r24_, .ref r25_, .int (zI 0), .int (zI 0), .int (zI 0), .int (zI 0)])), (r3_, iE 0 4 (fun _ => 0)), (r4_, iE 0 4 (fun _ => 0)), (r5_, iE 0 16 (fun _ => 0)), (r6_, iE 0 16 (fun _ => 0)), (r7_, iE 0 16 (fun _ => 0)), (r8_, iE 0 16 (fun _ => 0)), (r9_, iE 1 4 (fun _ => 0)), (r10_, iE 0 4 (fun _ => 0)), (r13_, iE 0 4 (fun _ => 0)), (r14_, iE 0 4 (fun _ => 0)), (r15_, iE 0 4 (fun _ => 0)), (r16_, iE 0 161 (fun _ => 0)), (r17_, iE 0 256 (fun _ => 0)), (r18_, iE 0 256 (fun _ => 0)), (r19_, iE 0 256 (fun _ => 0)), (r20_, iE 0 256 (fun _ => 0)), (r21_, iE 0 2816 (fun _ => 0)), (r22_, iE 0 256 (fun _ => 0)), (r23_, iE 0 258 (fun _ => 0)), (r24_, iE 1 225 (fun _ => 0)), (r25_, iE 1 64 (fun _ => 0))] := by
    subst ha
    rfl
  have hx : x = c 0 := by subst hc; rfl
  have hm : m = a 0 := by subst ha; rfl
  have hp : (([(x, .inr (9, [.ref p_, .ref wk_, .ref df_, .ref wn_, .ref m_, .ref n_, .ref bs_, .int (zI 1), .int (zI 0)])), (p_, .inr (4, [.ref pl_, .int (zI 4), .int (zI 4), .int (zI 16)])), (pl_, .inr (0, [.int (zI 0), .ref (en 5), .int (zI 0)])), (wk_, .inr (8, [.ref w1_, .ref w2_, .ref w3_, .ref w4_, .ref w5_, .ref w6_, .ref w7_, .ref w8_, .ref w9_, .int (zI 0)])), (w1_, iE 0 256 (fun _ => 0)), (w2_, iE 0 256 (fun _ => 0)), (w3_, iE 0 256 (fun _ => 0)), (w4_, iE 0 256 (fun _ => 0)), (w5_, iE 0 256 (fun _ => 0)), (w6_, iE 0 256 (fun _ => 0)), (w7_, iE 0 256 (fun _ => 0)), (w8_, iE 0 158 (fun _ => 0)), (w9_, iE 0 258 (fun _ => 0)), (df_, .inr (2, [.ref d1_, .ref d2_, .ref d3_, .ref d4_, .int (zI 0), .int (zI 4), .int (zI 4)])), (d1_, iE 1 225 (fun _ => 0)), (d2_, iE 0 225 (fun _ => 0)), (d3_, iE 0 225 (fun _ => 0)), (d4_, iE 1 64 (fun _ => 0)), (wn_, .inr (7, [.ref (en 0), .int (zI 1), .int (zI 1), .int (zI 1), .int (zI 0)])), (m_, .inr (3, [.int (zI 0), .ref m0_])), (m0_, oE 4 4 (r4 m1_ m2_ m3_ m4_)), (m1_, iE 0 64 (fun _ => 0)), (m2_, iE 0 64 (fun _ => 0)), (m3_, iE 0 64 (fun _ => 0)), (m4_, iE 0 64 (fun _ => 0)), (n_, .inr (3, [.int (zI 1), .ref n0_])), (n0_, oE 4 4 (r4 n1_ n2_ n3_ n4_)), (n1_, iE 0 701 (fun _ => 0)), (n2_, iE 0 701 (fun _ => 0)), (n3_, iE 0 701 (fun _ => 0)), (n4_, iE 0 701 (fun _ => 0)), (bs_, .inr (1, [.int (zI 0), .int (zI 0), .int (zI 0), .int (zI 0)]))] ++ [(m, .inr (10, [.int (zI 4), .int (zI 4), .int (zI 0), .ref r3_, .ref r4_, .ref r5_, .ref r6_, .ref r7_, .ref r8_, .ref r9_, .ref r10_, .int (zI 1), .int (zI 0), .ref r13_, .ref r14_, .ref r15_, .ref r16_, .ref r17_, .ref r18_, .ref r19_, .ref r20_, .ref r21_, .ref r22_, .ref r23_, .ref r24_, .ref r25_, .int (zI 0), .int (zI 0), .int (zI 0), .int (zI 0)])), (r3_, iE 0 4 (fun _ => 0)), (r4_, iE 0 4 (fun _ => 0)), (r5_, iE 0 16 (fun _ => 0)), (r6_, iE 0 16 (fun _ => 0)), (r7_, iE 0 16 (fun _ => 0)), (r8_, iE 0 16 (fun _ => 0)), (r9_, iE 1 4 (fun _ => 0)), (r10_, iE 0 4 (fun _ => 0)), (r13_, iE 0 4 (fun _ => 0)), (r14_, iE 0 4 (fun _ => 0)), (r15_, iE 0 4 (fun _ => 0)), (r16_, iE 0 161 (fun _ => 0)), (r17_, iE 0 256 (fun _ => 0)), (r18_, iE 0 256 (fun _ => 0)), (r19_, iE 0 256 (fun _ => 0)), (r20_, iE 0 256 (fun _ => 0)), (r21_, iE 0 2816 (fun _ => 0)), (r22_, iE 0 256 (fun _ => 0)), (r23_, iE 0 258 (fun _ => 0)), (r24_, iE 1 225 (fun _ => 0)), (r25_, iE 1 64 (fun _ => 0))]) ++ [(o, lE 1 (fun _ => 0))] : vWd).Perm (wL3 en c a κ0 κ0 o (fun _ => 0)) := by
    unfold wL3
    rw [e1, e2]
    have h1 : ([(x, .inr (9, [.ref p_, .ref wk_, .ref df_, .ref wn_, .ref m_, .ref n_, .ref bs_, .int (zI 1), .int (zI 0)])), (p_, .inr (4, [.ref pl_, .int (zI 4), .int (zI 4), .int (zI 16)])), (pl_, .inr (0, [.int (zI 0), .ref (en 5), .int (zI 0)])), (wk_, .inr (8, [.ref w1_, .ref w2_, .ref w3_, .ref w4_, .ref w5_, .ref w6_, .ref w7_, .ref w8_, .ref w9_, .int (zI 0)])), (w1_, iE 0 256 (fun _ => 0)), (w2_, iE 0 256 (fun _ => 0)), (w3_, iE 0 256 (fun _ => 0)), (w4_, iE 0 256 (fun _ => 0)), (w5_, iE 0 256 (fun _ => 0)), (w6_, iE 0 256 (fun _ => 0)), (w7_, iE 0 256 (fun _ => 0)), (w8_, iE 0 158 (fun _ => 0)), (w9_, iE 0 258 (fun _ => 0)), (df_, .inr (2, [.ref d1_, .ref d2_, .ref d3_, .ref d4_, .int (zI 0), .int (zI 4), .int (zI 4)])), (d1_, iE 1 225 (fun _ => 0)), (d2_, iE 0 225 (fun _ => 0)), (d3_, iE 0 225 (fun _ => 0)), (d4_, iE 1 64 (fun _ => 0)), (wn_, .inr (7, [.ref (en 0), .int (zI 1), .int (zI 1), .int (zI 1), .int (zI 0)])), (m_, .inr (3, [.int (zI 0), .ref m0_])), (m0_, oE 4 4 (r4 m1_ m2_ m3_ m4_)), (m1_, iE 0 64 (fun _ => 0)), (m2_, iE 0 64 (fun _ => 0)), (m3_, iE 0 64 (fun _ => 0)), (m4_, iE 0 64 (fun _ => 0)), (n_, .inr (3, [.int (zI 1), .ref n0_])), (n0_, oE 4 4 (r4 n1_ n2_ n3_ n4_)), (n1_, iE 0 701 (fun _ => 0)), (n2_, iE 0 701 (fun _ => 0)), (n3_, iE 0 701 (fun _ => 0)), (n4_, iE 0 701 (fun _ => 0)), (bs_, .inr (1, [.int (zI 0), .int (zI 0), .int (zI 0), .int (zI 0)]))] : vWd).Perm [(x, .inr (9, [.ref p_, .ref wk_, .ref df_, .ref wn_, .ref m_, .ref n_, .ref bs_, .int (zI 1), .int (zI 0)])), (p_, .inr (4, [.ref pl_, .int (zI 4), .int (zI 4), .int (zI 16)])), (wk_, .inr (8, [.ref w1_, .ref w2_, .ref w3_, .ref w4_, .ref w5_, .ref w6_, .ref w7_, .ref w8_, .ref w9_, .int (zI 0)])), (w1_, iE 0 256 (fun _ => 0)), (w2_, iE 0 256 (fun _ => 0)), (w3_, iE 0 256 (fun _ => 0)), (w4_, iE 0 256 (fun _ => 0)), (w5_, iE 0 256 (fun _ => 0)), (w6_, iE 0 256 (fun _ => 0)), (w7_, iE 0 256 (fun _ => 0)), (w8_, iE 0 158 (fun _ => 0)), (w9_, iE 0 258 (fun _ => 0)), (df_, .inr (2, [.ref d1_, .ref d2_, .ref d3_, .ref d4_, .int (zI 0), .int (zI 4), .int (zI 4)])), (d1_, iE 1 225 (fun _ => 0)), (d2_, iE 0 225 (fun _ => 0)), (d3_, iE 0 225 (fun _ => 0)), (d4_, iE 1 64 (fun _ => 0)), (m_, .inr (3, [.int (zI 0), .ref m0_])), (m0_, oE 4 4 (r4 m1_ m2_ m3_ m4_)), (m1_, iE 0 64 (fun _ => 0)), (m2_, iE 0 64 (fun _ => 0)), (m3_, iE 0 64 (fun _ => 0)), (m4_, iE 0 64 (fun _ => 0)), (n_, .inr (3, [.int (zI 1), .ref n0_])), (n0_, oE 4 4 (r4 n1_ n2_ n3_ n4_)), (n1_, iE 0 701 (fun _ => 0)), (n2_, iE 0 701 (fun _ => 0)), (n3_, iE 0 701 (fun _ => 0)), (n4_, iE 0 701 (fun _ => 0)), (bs_, .inr (1, [.int (zI 0), .int (zI 0), .int (zI 0), .int (zI 0)])), (wn_, .inr (7, [.ref (en 0), .int (zI 1), .int (zI 1), .int (zI 1), .int (zI 0)])), (pl_, .inr (0, [.int (zI 0), .ref (en 5), .int (zI 0)]))] := by
      have h3 := law_P3 [(wk_, .inr (8, [.ref w1_, .ref w2_, .ref w3_, .ref w4_, .ref w5_, .ref w6_, .ref w7_, .ref w8_, .ref w9_, .int (zI 0)])), (w1_, iE 0 256 (fun _ => 0)), (w2_, iE 0 256 (fun _ => 0)), (w3_, iE 0 256 (fun _ => 0)), (w4_, iE 0 256 (fun _ => 0)), (w5_, iE 0 256 (fun _ => 0)), (w6_, iE 0 256 (fun _ => 0)), (w7_, iE 0 256 (fun _ => 0)), (w8_, iE 0 158 (fun _ => 0)), (w9_, iE 0 258 (fun _ => 0)), (df_, .inr (2, [.ref d1_, .ref d2_, .ref d3_, .ref d4_, .int (zI 0), .int (zI 4), .int (zI 4)])), (d1_, iE 1 225 (fun _ => 0)), (d2_, iE 0 225 (fun _ => 0)), (d3_, iE 0 225 (fun _ => 0)), (d4_, iE 1 64 (fun _ => 0))] [(m_, .inr (3, [.int (zI 0), .ref m0_])), (m0_, oE 4 4 (r4 m1_ m2_ m3_ m4_)), (m1_, iE 0 64 (fun _ => 0)), (m2_, iE 0 64 (fun _ => 0)), (m3_, iE 0 64 (fun _ => 0)), (m4_, iE 0 64 (fun _ => 0)), (n_, .inr (3, [.int (zI 1), .ref n0_])), (n0_, oE 4 4 (r4 n1_ n2_ n3_ n4_)), (n1_, iE 0 701 (fun _ => 0)), (n2_, iE 0 701 (fun _ => 0)), (n3_, iE 0 701 (fun _ => 0)), (n4_, iE 0 701 (fun _ => 0)), (bs_, .inr (1, [.int (zI 0), .int (zI 0), .int (zI 0), .int (zI 0)]))] (pl_, .inr (0, [.int (zI 0), .ref (en 5), .int (zI 0)])) (wn_, .inr (7, [.ref (en 0), .int (zI 1), .int (zI 1), .int (zI 1), .int (zI 0)]))
      exact List.Perm.cons _ (List.Perm.cons _ h3)
    have h2 := (h1.append_right [(m, .inr (10, [.int (zI 4), .int (zI 4), .int (zI 0), .ref r3_, .ref r4_, .ref r5_, .ref r6_, .ref r7_, .ref r8_, .ref r9_, .ref r10_, .int (zI 1), .int (zI 0), .ref r13_, .ref r14_, .ref r15_, .ref r16_, .ref r17_, .ref r18_, .ref r19_, .ref r20_, .ref r21_, .ref r22_, .ref r23_, .ref r24_, .ref r25_, .int (zI 0), .int (zI 0), .int (zI 0), .int (zI 0)])), (r3_, iE 0 4 (fun _ => 0)), (r4_, iE 0 4 (fun _ => 0)), (r5_, iE 0 16 (fun _ => 0)), (r6_, iE 0 16 (fun _ => 0)), (r7_, iE 0 16 (fun _ => 0)), (r8_, iE 0 16 (fun _ => 0)), (r9_, iE 1 4 (fun _ => 0)), (r10_, iE 0 4 (fun _ => 0)), (r13_, iE 0 4 (fun _ => 0)), (r14_, iE 0 4 (fun _ => 0)), (r15_, iE 0 4 (fun _ => 0)), (r16_, iE 0 161 (fun _ => 0)), (r17_, iE 0 256 (fun _ => 0)), (r18_, iE 0 256 (fun _ => 0)), (r19_, iE 0 256 (fun _ => 0)), (r20_, iE 0 256 (fun _ => 0)), (r21_, iE 0 2816 (fun _ => 0)), (r22_, iE 0 256 (fun _ => 0)), (r23_, iE 0 258 (fun _ => 0)), (r24_, iE 1 225 (fun _ => 0)), (r25_, iE 1 64 (fun _ => 0))]).append_right [(o, lE 1 (fun _ => 0))]
    refine h2.trans ?_
    rw [← List.append_assoc]
    exact List.perm_append_comm.append_right [(o, lE 1 (fun _ => 0))]
  refine V_Perm hp ?_
  rw [hx, hm]
  exact law_loop hK hX hL hend (Ln + 6) 0 c κ0 κ0 κ0 (fun _ => 0) 0 (by omega) (by omega) (by omega) κ0_MI κ0_CWP (fun _ _ _ => rfl)

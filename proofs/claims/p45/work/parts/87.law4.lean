/-! the law's calls of the class that may throw: a contract for each number; the others -/
def dvl (x1 x2 x3 : Int) (sp : SP) : Int := if sp.1 = 0 then sp.2.1 else if sp.1 = 1 then x1 else if sp.1 = 2 then x2 else x3
theorem dvl_0 {x1 x2 x3 : Int} {sp : SP} (h : sp.1 = 0) : dvl x1 x2 x3 sp = sp.2.1 := if_pos h
theorem dvl_1 {x1 x2 x3 : Int} {sp : SP} (h : sp.1 = 1) : dvl x1 x2 x3 sp = x1 := by unfold dvl; rw [h]; rfl
theorem dvl_2 {x1 x2 x3 : Int} {sp : SP} (h : sp.1 = 2) : dvl x1 x2 x3 sp = x2 := by unfold dvl; rw [h]; rfl
theorem dvl_3 {x1 x2 x3 : Int} {sp : SP} (h : sp.1 = 3) : dvl x1 x2 x3 sp = x3 := by unfold dvl; rw [h]; rfl
def DLQ (en c : Nat → Nat) (x1 x2 x3 : Int) (sp : SP) : Option Value → vWd → Prop := fun v w => ∃ (c2 : Nat → Nat) (κ2 : St), v = some (.int (zI (dvl x1 x2 x3 sp))) ∧ w = fm (cO en c2 κ2) ∧ c2 0 = c 0 ∧ CWP sp.2.2 κ2
def DLR (en c : Nat → Nat) (x1 x2 x3 : Int) (sp : SP) : Option Value → vWd → Prop := fun v w => ∃ κ2 : St, v = some (.int (zI (dvl x1 x2 x3 sp))) ∧ w = fm (cO en c κ2) ∧ CWP sp.2.2 κ2
theorem MCX.mc {E : EV} {y : MethodName} {S : SI} {as : List Value} {ws : vWd} {Post : Option Value → vWd → Prop} {XPost : String → vWd → Prop} (hM : MCX E y S as ws Post XPost) (hx : ∀ X w, ¬ XPost X w) : MC E y S as ws Post := by
  intro l hl D cA sz p e h1 h2 h3 s m args below h4 h5 h6 h7
  obtain ⟨n, o, g1, g2, g3, g4⟩ := hM l hl D cA sz p e h1 h2 h3 s m args below h4 h5 h6 h7
  rcases g4 with g4 | ⟨q, -, X, ce, L, ⟨⟨w, z1, -⟩, -⟩, -⟩
  · exact ⟨n, o, g1, g2, g3, g4⟩
  · exact absurd z1 (hx X w)
theorem noX {en c : Nat → Nat} {sp : SP} {P : St} {L : List (Int × String)} (h : sp.1 = 0) (hL : ∀ p ∈ L, p.1 ≠ 0) : ∀ X w, ¬ XP1 en c sp P L X w := fun X w ⟨_, _, _, _, z⟩ => hL _ z h
abbrev sL_does : SI := (cL_does, RL, 8, (some (FieldType.int)), ⟨9, 8, 50, 182⟩)
theorem w509 : Cond.codeWith yL_does cL_does 8 (Option.some Jvm.ClassFile.FieldType.int) [(0, 297, 298, 71), (0, 297, 304, 73), (0, 297, 310, 75)] ∈ WA := wa_of (wm3 (List.mem_of_getElem? (i := 29) rfl)) rfl
theorem mokL_does : MOKH yL_does sL_does [(0, 297, 298, 71), (0, 297, 304, 73), (0, 297, 310, 75)] 7 := ⟨w509, w0, by decide +kernel⟩
set_option maxRecDepth 100000 in
set_option maxHeartbeats 4000000 in
theorem d_0 (en c : Nat → Nat) (κ : St) (a1 a2 a3 a4 a5 : Int) (P : St) (hp : MI P ∧ CWP P κ ∧ iR a1) : MCH (EX en) yL_does sL_does [(0, 297, 298, 71), (0, 297, 304, 73), (0, 297, 310, 75)] [.ref (c 0), .int (zI 0), .int (zI a1), .int (zI a2), .int (zI a3), .int (zI a4), .int (zI a5)] (fm (cO en c κ)) (DLQ en c (-2000) (-1000) 0 (sp_addStatement P a1)) := by
  obtain ⟨hM, hC, h0⟩ := hp
  refine MCH.of (EX.stb en) [some (.ref (c 0)), some (.int (zI 0)), some (.int (zI a1)), some (.int (zI a2)), some (.int (zI a3)), some (.int (zI a4)), some (.int (zI a5)), none] 1 rfl rfl rfl (by simp [Value.category]) (Nat.le_of_ble_eq_true rfl) (fun K hK hT hR => ?_)
  refine V_iload_n dL_does_0 rfl ?_
  refine V_if_ne (tgt := 12) dL_does_1 (by decide) ⟨by decide, by decide⟩ (fun h => absurd h (by decide)) (fun _ => ?_)
  refine V_aload_n dL_does_4 rfl ?_
  refine V_iload_n dL_does_5 rfl ?_
  refine V_callXVAH (As := [.int (zI a1)]) (b := c 0) (q0 := 0) (ci := 9) (fs := cwF c κ) (T := TX10) (N := 9) rfl rfl (wc := fm (cO en c κ)) (wr := []) (List.append_nil _).symm hK hT (MCX.env EX.en (k_addStatement en c κ a1 P ⟨hM, hC.1, h0, hC.2.1, hC.2.2⟩)) mokX10_addStatement w513 w514 w515 ⟨Nat.le_of_ble_eq_true rfl, Nat.le_of_ble_eq_true rfl⟩ rfl (Nat.le_of_ble_eq_true rfl) ⟨Nat.le_of_ble_eq_true rfl, Nat.le_of_ble_eq_true rfl⟩ dL_does_6 (fun X w hx => ?_) (fun v w hx => ?_)
  · obtain ⟨κ9, rfl, hC9, hP9, hL⟩ := hx
    simp only [List.mem_cons, List.not_mem_nil, or_false, Prod.mk.injEq] at hL
    rcases hL with ⟨e, rfl⟩ | ⟨e, rfl⟩
    · refine ⟨304, ⟨tableOf [(0, 297, 298, 71)], ⟨0, 297, 304, 73⟩, tableOf [(0, 297, 310, 75)], rfl, all1 ⟨by decide, _, w510, by simp [NcL]⟩, by decide, by decide, w511, wn522, rfl⟩, fun q => ?_⟩
      rw [List.append_nil]
      refine V_astore (L' := [some (.ref (c 0)), some (.int (zI 0)), some (.int (zI a1)), some (.int (zI a2)), some (.int (zI a3)), some (.int (zI a4)), some (.int (zI a5)), some (.ref q)]) dL_does_304 (by decide) rfl ?_
      refine V_sipush dL_does_306 (by decide) ?_
      refine V_iret hR rfl (Nat.le_of_ble_eq_true rfl) (Nat.le_of_ble_eq_true rfl) dL_does_309 ?_
      exact ⟨c, κ9, by rw [dvl_1 e], rfl, rfl, by rw [hP9]; exact hC9⟩
    · refine ⟨310, ⟨tableOf [(0, 297, 298, 71), (0, 297, 304, 73)], ⟨0, 297, 310, 75⟩, tableOf [], rfl, all2 ⟨by decide, _, w510, by simp [NcL]⟩ ⟨by decide, _, w511, by simp [NcL]⟩, by decide, by decide, w512, wn590, rfl⟩, fun q => ?_⟩
      rw [List.append_nil]
      refine V_astore (L' := [some (.ref (c 0)), some (.int (zI 0)), some (.int (zI a1)), some (.int (zI a2)), some (.int (zI a3)), some (.int (zI a4)), some (.int (zI a5)), some (.ref q)]) dL_does_310 (by decide) rfl ?_
      refine V_sipush dL_does_312 (by decide) ?_
      refine V_iret hR rfl (Nat.le_of_ble_eq_true rfl) (Nat.le_of_ble_eq_true rfl) dL_does_315 ?_
      exact ⟨c, κ9, by rw [dvl_2 e], rfl, rfl, by rw [hP9]; exact hC9⟩
  · obtain ⟨c2, κ2, rfl, rfl, e0, e1, hC2⟩ := hx
    rw [List.append_nil]
    show V K sL_does 6 35 (fm (cO en c2 κ2)) [some (.ref (c 0)), some (.int (zI 0)), some (.int (zI a1)), some (.int (zI a2)), some (.int (zI a3)), some (.int (zI a4)), some (.int (zI a5)), none] [.int (zI ((sp_addStatement P a1).2.1))] 9
    refine V_goto (tgt := 297) dL_does_9 (by decide) ?_
    refine V_iret hR rfl (Nat.le_of_ble_eq_true rfl) (Nat.le_of_ble_eq_true rfl) dL_does_297 ?_
    exact ⟨c2, κ2, by rw [dvl_0 e1], rfl, e0, hC2⟩
set_option maxRecDepth 100000 in
set_option maxHeartbeats 4000000 in
theorem d_1 (en c : Nat → Nat) (κ : St) (a1 a2 a3 a4 a5 : Int) (P : St) (hp : MI P ∧ CWP P κ ∧ iR a1 ∧ iR a2 ∧ iR a3 ∧ iR a4 ∧ iR a5) : MCH (EX en) yL_does sL_does [(0, 297, 298, 71), (0, 297, 304, 73), (0, 297, 310, 75)] [.ref (c 0), .int (zI 1), .int (zI a1), .int (zI a2), .int (zI a3), .int (zI a4), .int (zI a5)] (fm (cO en c κ)) (DLQ en c (-3000) (-2000) (-1000) (sp_addRead P a1 a2 a3 a4 a5)) := by
  obtain ⟨hM, hC, h0, h1, h2, h3, h4⟩ := hp
  refine MCH.of (EX.stb en) [some (.ref (c 0)), some (.int (zI 1)), some (.int (zI a1)), some (.int (zI a2)), some (.int (zI a3)), some (.int (zI a4)), some (.int (zI a5)), none] 1 rfl rfl rfl (by simp [Value.category]) (Nat.le_of_ble_eq_true rfl) (fun K hK hT hR => ?_)
  refine V_iload_n dL_does_0 rfl ?_
  refine V_if_ne (tgt := 12) dL_does_1 (by decide) ⟨by decide, by decide⟩ (fun _ => ?_) (fun h => absurd h (by decide))
  refine V_iload_n dL_does_12 rfl ?_
  refine V_iconst dL_does_13 ?_
  refine V_icmp_ne (tgt := 32) dL_does_14 (by decide) ⟨⟨by decide, by decide⟩, ⟨by decide, by decide⟩⟩ (fun h => absurd h (by decide)) (fun _ => ?_)
  refine V_aload_n dL_does_17 rfl ?_
  refine V_iload_n dL_does_18 rfl ?_
  refine V_iload_n dL_does_19 rfl ?_
  refine V_iload dL_does_20 rfl ?_
  refine V_iload dL_does_22 rfl ?_
  refine V_iload dL_does_24 rfl ?_
  refine V_callXVAH (As := [.int (zI a1), .int (zI a2), .int (zI a3), .int (zI a4), .int (zI a5)]) (b := c 0) (q0 := 0) (ci := 9) (fs := cwF c κ) (T := TX10) (N := 9) rfl rfl (wc := fm (cO en c κ)) (wr := []) (List.append_nil _).symm hK hT (MCX.env EX.en (k_addRead en c κ a1 a2 a3 a4 a5 P ⟨hM, hC.1, h0, h1, h2, h3, h4, hC.2.1, hC.2.2⟩)) mokX10_addRead w700 w701 w702 ⟨Nat.le_of_ble_eq_true rfl, Nat.le_of_ble_eq_true rfl⟩ rfl (Nat.le_of_ble_eq_true rfl) ⟨Nat.le_of_ble_eq_true rfl, Nat.le_of_ble_eq_true rfl⟩ dL_does_26 (fun X w hx => ?_) (fun v w hx => ?_)
  · obtain ⟨κ9, rfl, hC9, hP9, hL⟩ := hx
    simp only [List.mem_cons, List.not_mem_nil, or_false, Prod.mk.injEq] at hL
    rcases hL with ⟨e, rfl⟩ | ⟨e, rfl⟩ | ⟨e, rfl⟩
    · refine ⟨298, ⟨tableOf [], ⟨0, 297, 298, 71⟩, tableOf [(0, 297, 304, 73), (0, 297, 310, 75)], rfl, fun z hz => absurd hz List.not_mem_nil, by decide, by decide, w510, wn710, rfl⟩, fun q => ?_⟩
      rw [List.append_nil]
      refine V_astore (L' := [some (.ref (c 0)), some (.int (zI 1)), some (.int (zI a1)), some (.int (zI a2)), some (.int (zI a3)), some (.int (zI a4)), some (.int (zI a5)), some (.ref q)]) dL_does_298 (by decide) rfl ?_
      refine V_sipush dL_does_300 (by decide) ?_
      refine V_iret hR rfl (Nat.le_of_ble_eq_true rfl) (Nat.le_of_ble_eq_true rfl) dL_does_303 ?_
      exact ⟨c, κ9, by rw [dvl_1 e], rfl, rfl, by rw [hP9]; exact hC9⟩
    · refine ⟨304, ⟨tableOf [(0, 297, 298, 71)], ⟨0, 297, 304, 73⟩, tableOf [(0, 297, 310, 75)], rfl, all1 ⟨by decide, _, w510, by simp [NcL]⟩, by decide, by decide, w511, wn522, rfl⟩, fun q => ?_⟩
      rw [List.append_nil]
      refine V_astore (L' := [some (.ref (c 0)), some (.int (zI 1)), some (.int (zI a1)), some (.int (zI a2)), some (.int (zI a3)), some (.int (zI a4)), some (.int (zI a5)), some (.ref q)]) dL_does_304 (by decide) rfl ?_
      refine V_sipush dL_does_306 (by decide) ?_
      refine V_iret hR rfl (Nat.le_of_ble_eq_true rfl) (Nat.le_of_ble_eq_true rfl) dL_does_309 ?_
      exact ⟨c, κ9, by rw [dvl_2 e], rfl, rfl, by rw [hP9]; exact hC9⟩
    · refine ⟨310, ⟨tableOf [(0, 297, 298, 71), (0, 297, 304, 73)], ⟨0, 297, 310, 75⟩, tableOf [], rfl, all2 ⟨by decide, _, w510, by simp [NcL]⟩ ⟨by decide, _, w511, by simp [NcL]⟩, by decide, by decide, w512, wn590, rfl⟩, fun q => ?_⟩
      rw [List.append_nil]
      refine V_astore (L' := [some (.ref (c 0)), some (.int (zI 1)), some (.int (zI a1)), some (.int (zI a2)), some (.int (zI a3)), some (.int (zI a4)), some (.int (zI a5)), some (.ref q)]) dL_does_310 (by decide) rfl ?_
      refine V_sipush dL_does_312 (by decide) ?_
      refine V_iret hR rfl (Nat.le_of_ble_eq_true rfl) (Nat.le_of_ble_eq_true rfl) dL_does_315 ?_
      exact ⟨c, κ9, by rw [dvl_3 e], rfl, rfl, by rw [hP9]; exact hC9⟩
  · obtain ⟨c2, κ2, rfl, rfl, e0, e1, hC2⟩ := hx
    rw [List.append_nil]
    show V K sL_does 8 50 (fm (cO en c2 κ2)) [some (.ref (c 0)), some (.int (zI 1)), some (.int (zI a1)), some (.int (zI a2)), some (.int (zI a3)), some (.int (zI a4)), some (.int (zI a5)), none] [.int (zI ((sp_addRead P a1 a2 a3 a4 a5).2.1))] 29
    refine V_goto (tgt := 297) dL_does_29 (by decide) ?_
    refine V_iret hR rfl (Nat.le_of_ble_eq_true rfl) (Nat.le_of_ble_eq_true rfl) dL_does_297 ?_
    exact ⟨c2, κ2, by rw [dvl_0 e1], rfl, e0, hC2⟩
set_option maxRecDepth 100000 in
set_option maxHeartbeats 4000000 in
theorem d_2 (en c : Nat → Nat) (κ : St) (a1 a2 a3 a4 a5 : Int) (P : St) (hp : MI P ∧ CWP P κ ∧ iR a1) : MCH (EX en) yL_does sL_does [(0, 297, 298, 71), (0, 297, 304, 73), (0, 297, 310, 75)] [.ref (c 0), .int (zI 2), .int (zI a1), .int (zI a2), .int (zI a3), .int (zI a4), .int (zI a5)] (fm (cO en c κ)) (DLR en c (-3000) 0 0 (sp_dropReads P a1)) := by
  obtain ⟨hM, hC, h0⟩ := hp
  refine MCH.of (EX.stb en) [some (.ref (c 0)), some (.int (zI 2)), some (.int (zI a1)), some (.int (zI a2)), some (.int (zI a3)), some (.int (zI a4)), some (.int (zI a5)), none] 1 rfl rfl rfl (by simp [Value.category]) (Nat.le_of_ble_eq_true rfl) (fun K hK hT hR => ?_)
  refine V_iload_n dL_does_0 rfl ?_
  refine V_if_ne (tgt := 12) dL_does_1 (by decide) ⟨by decide, by decide⟩ (fun _ => ?_) (fun h => absurd h (by decide))
  refine V_iload_n dL_does_12 rfl ?_
  refine V_iconst dL_does_13 ?_
  refine V_icmp_ne (tgt := 32) dL_does_14 (by decide) ⟨⟨by decide, by decide⟩, ⟨by decide, by decide⟩⟩ (fun _ => ?_) (fun h => absurd h (by decide))
  refine V_iload_n dL_does_32 rfl ?_
  refine V_iconst dL_does_33 ?_
  refine V_icmp_ne (tgt := 45) dL_does_34 (by decide) ⟨⟨by decide, by decide⟩, ⟨by decide, by decide⟩⟩ (fun h => absurd h (by decide)) (fun _ => ?_)
  refine V_aload_n dL_does_37 rfl ?_
  refine V_iload_n dL_does_38 rfl ?_
  refine V_callXVAH (As := [.int (zI a1)]) (b := c 0) (q0 := 0) (ci := 9) (fs := cwF c κ) (T := TX10) (N := 9) rfl rfl (wc := fm (cO en c κ)) (wr := []) (List.append_nil _).symm hK hT (MCX.env EX.en (k_dropReads en c κ a1 P ⟨hM, hC.1, h0, hC.2.1, hC.2.2⟩)) mokX10_dropReads w754 w755 w756 ⟨Nat.le_of_ble_eq_true rfl, Nat.le_of_ble_eq_true rfl⟩ rfl (Nat.le_of_ble_eq_true rfl) ⟨Nat.le_of_ble_eq_true rfl, Nat.le_of_ble_eq_true rfl⟩ dL_does_39 (fun X w hx => ?_) (fun v w hx => ?_)
  · obtain ⟨κ9, rfl, hC9, hP9, hL⟩ := hx
    simp only [List.mem_cons, List.not_mem_nil, or_false, Prod.mk.injEq] at hL
    obtain ⟨e, rfl⟩ := hL
    refine ⟨298, ⟨tableOf [], ⟨0, 297, 298, 71⟩, tableOf [(0, 297, 304, 73), (0, 297, 310, 75)], rfl, fun z hz => absurd hz List.not_mem_nil, by decide, by decide, w510, wn710, rfl⟩, fun q => ?_⟩
    rw [List.append_nil]
    refine V_astore (L' := [some (.ref (c 0)), some (.int (zI 2)), some (.int (zI a1)), some (.int (zI a2)), some (.int (zI a3)), some (.int (zI a4)), some (.int (zI a5)), some (.ref q)]) dL_does_298 (by decide) rfl ?_
    refine V_sipush dL_does_300 (by decide) ?_
    refine V_iret hR rfl (Nat.le_of_ble_eq_true rfl) (Nat.le_of_ble_eq_true rfl) dL_does_303 ?_
    exact ⟨κ9, by rw [dvl_1 e], rfl, by rw [hP9]; exact hC9⟩
  · obtain ⟨κ2, rfl, rfl, e1, hC2⟩ := hx
    rw [List.append_nil]
    show V K sL_does 1 6 (fm (cO en c κ2)) [some (.ref (c 0)), some (.int (zI 2)), some (.int (zI a1)), some (.int (zI a2)), some (.int (zI a3)), some (.int (zI a4)), some (.int (zI a5)), none] [.int (zI ((sp_dropReads P a1).2.1))] 42
    refine V_goto (tgt := 297) dL_does_42 (by decide) ?_
    refine V_iret hR rfl (Nat.le_of_ble_eq_true rfl) (Nat.le_of_ble_eq_true rfl) dL_does_297 ?_
    exact ⟨κ2, by rw [dvl_0 e1], rfl, hC2⟩
set_option maxRecDepth 100000 in
set_option maxHeartbeats 4000000 in
theorem d_3 (en c : Nat → Nat) (κ : St) (a1 a2 a3 a4 a5 : Int) (P : St) (hp : MI P ∧ CWP P κ ∧ iR a1 ∧ ((a2 = 0 ∨ a2 = 1))) : MCH (EX en) yL_does sL_does [(0, 297, 298, 71), (0, 297, 304, 73), (0, 297, 310, 75)] [.ref (c 0), .int (zI 3), .int (zI a1), .int (zI a2), .int (zI a3), .int (zI a4), .int (zI a5)] (fm (cO en c κ)) (DLR en c (-3000) 0 0 (sp_setLasting P a1 a2)) := by
  obtain ⟨hM, hC, h0, h1⟩ := hp
  refine MCH.of (EX.stb en) [some (.ref (c 0)), some (.int (zI 3)), some (.int (zI a1)), some (.int (zI a2)), some (.int (zI a3)), some (.int (zI a4)), some (.int (zI a5)), none] 1 rfl rfl rfl (by simp [Value.category]) (Nat.le_of_ble_eq_true rfl) (fun K hK hT hR => ?_)
  rcases h1 with h1 | h1 <;> subst h1
  · refine V_iload_n dL_does_0 rfl ?_
    refine V_if_ne (tgt := 12) dL_does_1 (by decide) ⟨by decide, by decide⟩ (fun _ => ?_) (fun h => absurd h (by decide))
    refine V_iload_n dL_does_12 rfl ?_
    refine V_iconst dL_does_13 ?_
    refine V_icmp_ne (tgt := 32) dL_does_14 (by decide) ⟨⟨by decide, by decide⟩, ⟨by decide, by decide⟩⟩ (fun _ => ?_) (fun h => absurd h (by decide))
    refine V_iload_n dL_does_32 rfl ?_
    refine V_iconst dL_does_33 ?_
    refine V_icmp_ne (tgt := 45) dL_does_34 (by decide) ⟨⟨by decide, by decide⟩, ⟨by decide, by decide⟩⟩ (fun _ => ?_) (fun h => absurd h (by decide))
    refine V_iload_n dL_does_45 rfl ?_
    refine V_iconst dL_does_46 ?_
    refine V_icmp_ne (tgt := 76) dL_does_47 (by decide) ⟨⟨by decide, by decide⟩, ⟨by decide, by decide⟩⟩ (fun h => absurd h (by decide)) (fun _ => ?_)
    refine V_aload_n dL_does_50 rfl ?_
    refine V_iload_n dL_does_51 rfl ?_
    refine V_iload_n dL_does_52 rfl ?_
    refine V_iconst dL_does_53 ?_
    refine V_icmp_ne (tgt := 61) dL_does_54 (by decide) ⟨⟨by decide, by decide⟩, ⟨by decide, by decide⟩⟩ (fun _ => ?_) (fun h => absurd h (by decide))
    refine V_iconst dL_does_61 ?_
    refine V_callXVAH (As := [.int (zI a1), .int (zI 0)]) (b := c 0) (q0 := 0) (ci := 9) (fs := cwF c κ) (T := TX10) (N := 9) rfl rfl (wc := fm (cO en c κ)) (wr := []) (List.append_nil _).symm hK hT (MCX.env EX.en (k_setLasting en c κ a1 0 P ⟨hM, hC.1, h0, Or.inl rfl, hC.2.1, hC.2.2⟩)) mokX10_setLasting w762 w763 w764 ⟨Nat.le_of_ble_eq_true rfl, Nat.le_of_ble_eq_true rfl⟩ rfl (Nat.le_of_ble_eq_true rfl) ⟨Nat.le_of_ble_eq_true rfl, Nat.le_of_ble_eq_true rfl⟩ dL_does_62 (fun X w hx => ?_) (fun v w hx => ?_)
    · obtain ⟨κ9, rfl, hC9, hP9, hL⟩ := hx
      simp only [List.mem_cons, List.not_mem_nil, or_false, Prod.mk.injEq] at hL
      obtain ⟨e, rfl⟩ := hL
      refine ⟨298, ⟨tableOf [], ⟨0, 297, 298, 71⟩, tableOf [(0, 297, 304, 73), (0, 297, 310, 75)], rfl, fun z hz => absurd hz List.not_mem_nil, by decide, by decide, w510, wn710, rfl⟩, fun q => ?_⟩
      rw [List.append_nil]
      refine V_astore (L' := [some (.ref (c 0)), some (.int (zI 3)), some (.int (zI a1)), some (.int (zI 0)), some (.int (zI a3)), some (.int (zI a4)), some (.int (zI a5)), some (.ref q)]) dL_does_298 (by decide) rfl ?_
      refine V_sipush dL_does_300 (by decide) ?_
      refine V_iret hR rfl (Nat.le_of_ble_eq_true rfl) (Nat.le_of_ble_eq_true rfl) dL_does_303 ?_
      exact ⟨κ9, by rw [dvl_1 e], rfl, by rw [hP9]; exact hC9⟩
    · obtain ⟨κ2, rfl, rfl, e1, hC2⟩ := hx
      rw [List.append_nil]
      show V K sL_does 1 6 (fm (cO en c κ2)) [some (.ref (c 0)), some (.int (zI 3)), some (.int (zI a1)), some (.int (zI 0)), some (.int (zI a3)), some (.int (zI a4)), some (.int (zI a5)), none] [.int (zI ((sp_setLasting P a1 0).2.1))] 65
      have hbl : ((sp_setLasting P a1 0).2.1) = 0 ∨ ((sp_setLasting P a1 0).2.1) = 1 := gd_b (fun h => las_b hM h.1 (by have := hM.2.2.1; have := h.2; omega))
      refine V_if_eq (tgt := 72) dL_does_65 (by decide) ⟨by omega, by omega⟩ (fun hb0 => ?_) (fun hb0 => ?_)
      · refine V_iconst dL_does_72 ?_
        refine V_goto (tgt := 297) dL_does_73 (by decide) ?_
        refine V_iret hR rfl (Nat.le_of_ble_eq_true rfl) (Nat.le_of_ble_eq_true rfl) dL_does_297 ?_
        exact ⟨κ2, by rw [dvl_0 e1, hb0], rfl, hC2⟩
      · refine V_iconst dL_does_68 ?_
        refine V_goto (tgt := 297) dL_does_69 (by decide) ?_
        refine V_iret hR rfl (Nat.le_of_ble_eq_true rfl) (Nat.le_of_ble_eq_true rfl) dL_does_297 ?_
        exact ⟨κ2, by rw [dvl_0 e1, hbl.resolve_left hb0], rfl, hC2⟩
  · refine V_iload_n dL_does_0 rfl ?_
    refine V_if_ne (tgt := 12) dL_does_1 (by decide) ⟨by decide, by decide⟩ (fun _ => ?_) (fun h => absurd h (by decide))
    refine V_iload_n dL_does_12 rfl ?_
    refine V_iconst dL_does_13 ?_
    refine V_icmp_ne (tgt := 32) dL_does_14 (by decide) ⟨⟨by decide, by decide⟩, ⟨by decide, by decide⟩⟩ (fun _ => ?_) (fun h => absurd h (by decide))
    refine V_iload_n dL_does_32 rfl ?_
    refine V_iconst dL_does_33 ?_
    refine V_icmp_ne (tgt := 45) dL_does_34 (by decide) ⟨⟨by decide, by decide⟩, ⟨by decide, by decide⟩⟩ (fun _ => ?_) (fun h => absurd h (by decide))
    refine V_iload_n dL_does_45 rfl ?_
    refine V_iconst dL_does_46 ?_
    refine V_icmp_ne (tgt := 76) dL_does_47 (by decide) ⟨⟨by decide, by decide⟩, ⟨by decide, by decide⟩⟩ (fun h => absurd h (by decide)) (fun _ => ?_)
    refine V_aload_n dL_does_50 rfl ?_
    refine V_iload_n dL_does_51 rfl ?_
    refine V_iload_n dL_does_52 rfl ?_
    refine V_iconst dL_does_53 ?_
    refine V_icmp_ne (tgt := 61) dL_does_54 (by decide) ⟨⟨by decide, by decide⟩, ⟨by decide, by decide⟩⟩ (fun h => absurd h (by decide)) (fun _ => ?_)
    refine V_iconst dL_does_57 ?_
    refine V_goto (tgt := 62) dL_does_58 (by decide) ?_
    refine V_callXVAH (As := [.int (zI a1), .int (zI 1)]) (b := c 0) (q0 := 0) (ci := 9) (fs := cwF c κ) (T := TX10) (N := 9) rfl rfl (wc := fm (cO en c κ)) (wr := []) (List.append_nil _).symm hK hT (MCX.env EX.en (k_setLasting en c κ a1 1 P ⟨hM, hC.1, h0, Or.inr rfl, hC.2.1, hC.2.2⟩)) mokX10_setLasting w762 w763 w764 ⟨Nat.le_of_ble_eq_true rfl, Nat.le_of_ble_eq_true rfl⟩ rfl (Nat.le_of_ble_eq_true rfl) ⟨Nat.le_of_ble_eq_true rfl, Nat.le_of_ble_eq_true rfl⟩ dL_does_62 (fun X w hx => ?_) (fun v w hx => ?_)
    · obtain ⟨κ9, rfl, hC9, hP9, hL⟩ := hx
      simp only [List.mem_cons, List.not_mem_nil, or_false, Prod.mk.injEq] at hL
      obtain ⟨e, rfl⟩ := hL
      refine ⟨298, ⟨tableOf [], ⟨0, 297, 298, 71⟩, tableOf [(0, 297, 304, 73), (0, 297, 310, 75)], rfl, fun z hz => absurd hz List.not_mem_nil, by decide, by decide, w510, wn710, rfl⟩, fun q => ?_⟩
      rw [List.append_nil]
      refine V_astore (L' := [some (.ref (c 0)), some (.int (zI 3)), some (.int (zI a1)), some (.int (zI 1)), some (.int (zI a3)), some (.int (zI a4)), some (.int (zI a5)), some (.ref q)]) dL_does_298 (by decide) rfl ?_
      refine V_sipush dL_does_300 (by decide) ?_
      refine V_iret hR rfl (Nat.le_of_ble_eq_true rfl) (Nat.le_of_ble_eq_true rfl) dL_does_303 ?_
      exact ⟨κ9, by rw [dvl_1 e], rfl, by rw [hP9]; exact hC9⟩
    · obtain ⟨κ2, rfl, rfl, e1, hC2⟩ := hx
      rw [List.append_nil]
      show V K sL_does 1 6 (fm (cO en c κ2)) [some (.ref (c 0)), some (.int (zI 3)), some (.int (zI a1)), some (.int (zI 1)), some (.int (zI a3)), some (.int (zI a4)), some (.int (zI a5)), none] [.int (zI ((sp_setLasting P a1 1).2.1))] 65
      have hbl : ((sp_setLasting P a1 1).2.1) = 0 ∨ ((sp_setLasting P a1 1).2.1) = 1 := gd_b (fun h => las_b hM h.1 (by have := hM.2.2.1; have := h.2; omega))
      refine V_if_eq (tgt := 72) dL_does_65 (by decide) ⟨by omega, by omega⟩ (fun hb0 => ?_) (fun hb0 => ?_)
      · refine V_iconst dL_does_72 ?_
        refine V_goto (tgt := 297) dL_does_73 (by decide) ?_
        refine V_iret hR rfl (Nat.le_of_ble_eq_true rfl) (Nat.le_of_ble_eq_true rfl) dL_does_297 ?_
        exact ⟨κ2, by rw [dvl_0 e1, hb0], rfl, hC2⟩
      · refine V_iconst dL_does_68 ?_
        refine V_goto (tgt := 297) dL_does_69 (by decide) ?_
        refine V_iret hR rfl (Nat.le_of_ble_eq_true rfl) (Nat.le_of_ble_eq_true rfl) dL_does_297 ?_
        exact ⟨κ2, by rw [dvl_0 e1, hbl.resolve_left hb0], rfl, hC2⟩
set_option maxRecDepth 100000 in
set_option maxHeartbeats 4000000 in
theorem d_4 (en c : Nat → Nat) (κ : St) (a1 a2 a3 a4 a5 : Int) (P : St) (hp : MI P ∧ CWP P κ ∧ iR a1 ∧ iR a2) : MCH (EX en) yL_does sL_does [(0, 297, 298, 71), (0, 297, 304, 73), (0, 297, 310, 75)] [.ref (c 0), .int (zI 4), .int (zI a1), .int (zI a2), .int (zI a3), .int (zI a4), .int (zI a5)] (fm (cO en c κ)) (DLR en c (-2000) 0 0 (sp_setField P a1 a2)) := by
  obtain ⟨hM, hC, h0, h1⟩ := hp
  refine MCH.of (EX.stb en) [some (.ref (c 0)), some (.int (zI 4)), some (.int (zI a1)), some (.int (zI a2)), some (.int (zI a3)), some (.int (zI a4)), some (.int (zI a5)), none] 1 rfl rfl rfl (by simp [Value.category]) (Nat.le_of_ble_eq_true rfl) (fun K hK hT hR => ?_)
  refine V_iload_n dL_does_0 rfl ?_
  refine V_if_ne (tgt := 12) dL_does_1 (by decide) ⟨by decide, by decide⟩ (fun _ => ?_) (fun h => absurd h (by decide))
  refine V_iload_n dL_does_12 rfl ?_
  refine V_iconst dL_does_13 ?_
  refine V_icmp_ne (tgt := 32) dL_does_14 (by decide) ⟨⟨by decide, by decide⟩, ⟨by decide, by decide⟩⟩ (fun _ => ?_) (fun h => absurd h (by decide))
  refine V_iload_n dL_does_32 rfl ?_
  refine V_iconst dL_does_33 ?_
  refine V_icmp_ne (tgt := 45) dL_does_34 (by decide) ⟨⟨by decide, by decide⟩, ⟨by decide, by decide⟩⟩ (fun _ => ?_) (fun h => absurd h (by decide))
  refine V_iload_n dL_does_45 rfl ?_
  refine V_iconst dL_does_46 ?_
  refine V_icmp_ne (tgt := 76) dL_does_47 (by decide) ⟨⟨by decide, by decide⟩, ⟨by decide, by decide⟩⟩ (fun _ => ?_) (fun h => absurd h (by decide))
  refine V_iload_n dL_does_76 rfl ?_
  refine V_iconst dL_does_77 ?_
  refine V_icmp_ne (tgt := 90) dL_does_78 (by decide) ⟨⟨by decide, by decide⟩, ⟨by decide, by decide⟩⟩ (fun h => absurd h (by decide)) (fun _ => ?_)
  refine V_aload_n dL_does_81 rfl ?_
  refine V_iload_n dL_does_82 rfl ?_
  refine V_iload_n dL_does_83 rfl ?_
  refine V_callXVAH (As := [.int (zI a1), .int (zI a2)]) (b := c 0) (q0 := 0) (ci := 9) (fs := cwF c κ) (T := TX10) (N := 9) rfl rfl (wc := fm (cO en c κ)) (wr := []) (List.append_nil _).symm hK hT (MCX.env EX.en (k_setField en c κ a1 a2 P ⟨hM, hC.1, h0, h1, hC.2.1, hC.2.2⟩)) mokX10_setField w766 w767 w768 ⟨Nat.le_of_ble_eq_true rfl, Nat.le_of_ble_eq_true rfl⟩ rfl (Nat.le_of_ble_eq_true rfl) ⟨Nat.le_of_ble_eq_true rfl, Nat.le_of_ble_eq_true rfl⟩ dL_does_84 (fun X w hx => ?_) (fun v w hx => ?_)
  · obtain ⟨κ9, rfl, hC9, hP9, hL⟩ := hx
    simp only [List.mem_cons, List.not_mem_nil, or_false, Prod.mk.injEq] at hL
    obtain ⟨e, rfl⟩ := hL
    refine ⟨304, ⟨tableOf [(0, 297, 298, 71)], ⟨0, 297, 304, 73⟩, tableOf [(0, 297, 310, 75)], rfl, all1 ⟨by decide, _, w510, by simp [NcL]⟩, by decide, by decide, w511, wn522, rfl⟩, fun q => ?_⟩
    rw [List.append_nil]
    refine V_astore (L' := [some (.ref (c 0)), some (.int (zI 4)), some (.int (zI a1)), some (.int (zI a2)), some (.int (zI a3)), some (.int (zI a4)), some (.int (zI a5)), some (.ref q)]) dL_does_304 (by decide) rfl ?_
    refine V_sipush dL_does_306 (by decide) ?_
    refine V_iret hR rfl (Nat.le_of_ble_eq_true rfl) (Nat.le_of_ble_eq_true rfl) dL_does_309 ?_
    exact ⟨κ9, by rw [dvl_1 e], rfl, by rw [hP9]; exact hC9⟩
  · obtain ⟨κ2, rfl, rfl, e1, hC2⟩ := hx
    rw [List.append_nil]
    show V K sL_does 2 12 (fm (cO en c κ2)) [some (.ref (c 0)), some (.int (zI 4)), some (.int (zI a1)), some (.int (zI a2)), some (.int (zI a3)), some (.int (zI a4)), some (.int (zI a5)), none] [.int (zI ((sp_setField P a1 a2).2.1))] 87
    refine V_goto (tgt := 297) dL_does_87 (by decide) ?_
    refine V_iret hR rfl (Nat.le_of_ble_eq_true rfl) (Nat.le_of_ble_eq_true rfl) dL_does_297 ?_
    exact ⟨κ2, by rw [dvl_0 e1], rfl, hC2⟩
set_option maxRecDepth 100000 in
set_option maxHeartbeats 4000000 in
theorem d_5 (en c : Nat → Nat) (κ : St) (a1 a2 a3 a4 a5 : Int) (P : St) (hp : MI P ∧ CWP P κ ∧ iR a1 ∧ iR a2) : MCH (EX en) yL_does sL_does [(0, 297, 298, 71), (0, 297, 304, 73), (0, 297, 310, 75)] [.ref (c 0), .int (zI 5), .int (zI a1), .int (zI a2), .int (zI a3), .int (zI a4), .int (zI a5)] (fm (cO en c κ)) (DLR en c (-2000) 0 0 (sp_setSchedule P a1 a2)) := by
  obtain ⟨hM, hC, h0, h1⟩ := hp
  refine MCH.of (EX.stb en) [some (.ref (c 0)), some (.int (zI 5)), some (.int (zI a1)), some (.int (zI a2)), some (.int (zI a3)), some (.int (zI a4)), some (.int (zI a5)), none] 1 rfl rfl rfl (by simp [Value.category]) (Nat.le_of_ble_eq_true rfl) (fun K hK hT hR => ?_)
  refine V_iload_n dL_does_0 rfl ?_
  refine V_if_ne (tgt := 12) dL_does_1 (by decide) ⟨by decide, by decide⟩ (fun _ => ?_) (fun h => absurd h (by decide))
  refine V_iload_n dL_does_12 rfl ?_
  refine V_iconst dL_does_13 ?_
  refine V_icmp_ne (tgt := 32) dL_does_14 (by decide) ⟨⟨by decide, by decide⟩, ⟨by decide, by decide⟩⟩ (fun _ => ?_) (fun h => absurd h (by decide))
  refine V_iload_n dL_does_32 rfl ?_
  refine V_iconst dL_does_33 ?_
  refine V_icmp_ne (tgt := 45) dL_does_34 (by decide) ⟨⟨by decide, by decide⟩, ⟨by decide, by decide⟩⟩ (fun _ => ?_) (fun h => absurd h (by decide))
  refine V_iload_n dL_does_45 rfl ?_
  refine V_iconst dL_does_46 ?_
  refine V_icmp_ne (tgt := 76) dL_does_47 (by decide) ⟨⟨by decide, by decide⟩, ⟨by decide, by decide⟩⟩ (fun _ => ?_) (fun h => absurd h (by decide))
  refine V_iload_n dL_does_76 rfl ?_
  refine V_iconst dL_does_77 ?_
  refine V_icmp_ne (tgt := 90) dL_does_78 (by decide) ⟨⟨by decide, by decide⟩, ⟨by decide, by decide⟩⟩ (fun _ => ?_) (fun h => absurd h (by decide))
  refine V_iload_n dL_does_90 rfl ?_
  refine V_iconst dL_does_91 ?_
  refine V_icmp_ne (tgt := 112) dL_does_92 (by decide) ⟨⟨by decide, by decide⟩, ⟨by decide, by decide⟩⟩ (fun h => absurd h (by decide)) (fun _ => ?_)
  refine V_aload_n dL_does_95 rfl ?_
  refine V_iload_n dL_does_96 rfl ?_
  refine V_iload_n dL_does_97 rfl ?_
  refine V_callXVAH (As := [.int (zI a1), .int (zI a2)]) (b := c 0) (q0 := 0) (ci := 9) (fs := cwF c κ) (T := TX10) (N := 9) rfl rfl (wc := fm (cO en c κ)) (wr := []) (List.append_nil _).symm hK hT (MCX.env EX.en (k_setSchedule en c κ a1 a2 P ⟨hM, hC.1, h0, h1, hC.2.1, hC.2.2⟩)) mokX10_setSchedule w774 w775 w776 ⟨Nat.le_of_ble_eq_true rfl, Nat.le_of_ble_eq_true rfl⟩ rfl (Nat.le_of_ble_eq_true rfl) ⟨Nat.le_of_ble_eq_true rfl, Nat.le_of_ble_eq_true rfl⟩ dL_does_98 (fun X w hx => ?_) (fun v w hx => ?_)
  · obtain ⟨κ9, rfl, hC9, hP9, hL⟩ := hx
    simp only [List.mem_cons, List.not_mem_nil, or_false, Prod.mk.injEq] at hL
    obtain ⟨e, rfl⟩ := hL
    refine ⟨304, ⟨tableOf [(0, 297, 298, 71)], ⟨0, 297, 304, 73⟩, tableOf [(0, 297, 310, 75)], rfl, all1 ⟨by decide, _, w510, by simp [NcL]⟩, by decide, by decide, w511, wn522, rfl⟩, fun q => ?_⟩
    rw [List.append_nil]
    refine V_astore (L' := [some (.ref (c 0)), some (.int (zI 5)), some (.int (zI a1)), some (.int (zI a2)), some (.int (zI a3)), some (.int (zI a4)), some (.int (zI a5)), some (.ref q)]) dL_does_304 (by decide) rfl ?_
    refine V_sipush dL_does_306 (by decide) ?_
    refine V_iret hR rfl (Nat.le_of_ble_eq_true rfl) (Nat.le_of_ble_eq_true rfl) dL_does_309 ?_
    exact ⟨κ9, by rw [dvl_1 e], rfl, by rw [hP9]; exact hC9⟩
  · obtain ⟨κ2, rfl, rfl, e1, hC2⟩ := hx
    rw [List.append_nil]
    show V K sL_does 2 12 (fm (cO en c κ2)) [some (.ref (c 0)), some (.int (zI 5)), some (.int (zI a1)), some (.int (zI a2)), some (.int (zI a3)), some (.int (zI a4)), some (.int (zI a5)), none] [.int (zI ((sp_setSchedule P a1 a2).2.1))] 101
    have hbl : ((sp_setSchedule P a1 a2).2.1) = 0 ∨ ((sp_setSchedule P a1 a2).2.1) = 1 := gd_b (fun _ => bzv _)
    refine V_if_eq (tgt := 108) dL_does_101 (by decide) ⟨by omega, by omega⟩ (fun hb0 => ?_) (fun hb0 => ?_)
    · refine V_iconst dL_does_108 ?_
      refine V_goto (tgt := 297) dL_does_109 (by decide) ?_
      refine V_iret hR rfl (Nat.le_of_ble_eq_true rfl) (Nat.le_of_ble_eq_true rfl) dL_does_297 ?_
      exact ⟨κ2, by rw [dvl_0 e1, hb0], rfl, hC2⟩
    · refine V_iconst dL_does_104 ?_
      refine V_goto (tgt := 297) dL_does_105 (by decide) ?_
      refine V_iret hR rfl (Nat.le_of_ble_eq_true rfl) (Nat.le_of_ble_eq_true rfl) dL_does_297 ?_
      exact ⟨κ2, by rw [dvl_0 e1, hbl.resolve_left hb0], rfl, hC2⟩
set_option maxRecDepth 100000 in
set_option maxHeartbeats 4000000 in
theorem d_6 (en c : Nat → Nat) (κ : St) (a1 a2 a3 a4 a5 : Int) (P : St) (hp : MI P ∧ CWP P κ ∧ iR a1 ∧ iR a2) : MCH (EX en) yL_does sL_does [(0, 297, 298, 71), (0, 297, 304, 73), (0, 297, 310, 75)] [.ref (c 0), .int (zI 6), .int (zI a1), .int (zI a2), .int (zI a3), .int (zI a4), .int (zI a5)] (fm (cO en c κ)) (DLR en c (-3000) (-2000) 0 (sp_setOffset P a1 a2)) := by
  obtain ⟨hM, hC, h0, h1⟩ := hp
  refine MCH.of (EX.stb en) [some (.ref (c 0)), some (.int (zI 6)), some (.int (zI a1)), some (.int (zI a2)), some (.int (zI a3)), some (.int (zI a4)), some (.int (zI a5)), none] 1 rfl rfl rfl (by simp [Value.category]) (Nat.le_of_ble_eq_true rfl) (fun K hK hT hR => ?_)
  refine V_iload_n dL_does_0 rfl ?_
  refine V_if_ne (tgt := 12) dL_does_1 (by decide) ⟨by decide, by decide⟩ (fun _ => ?_) (fun h => absurd h (by decide))
  refine V_iload_n dL_does_12 rfl ?_
  refine V_iconst dL_does_13 ?_
  refine V_icmp_ne (tgt := 32) dL_does_14 (by decide) ⟨⟨by decide, by decide⟩, ⟨by decide, by decide⟩⟩ (fun _ => ?_) (fun h => absurd h (by decide))
  refine V_iload_n dL_does_32 rfl ?_
  refine V_iconst dL_does_33 ?_
  refine V_icmp_ne (tgt := 45) dL_does_34 (by decide) ⟨⟨by decide, by decide⟩, ⟨by decide, by decide⟩⟩ (fun _ => ?_) (fun h => absurd h (by decide))
  refine V_iload_n dL_does_45 rfl ?_
  refine V_iconst dL_does_46 ?_
  refine V_icmp_ne (tgt := 76) dL_does_47 (by decide) ⟨⟨by decide, by decide⟩, ⟨by decide, by decide⟩⟩ (fun _ => ?_) (fun h => absurd h (by decide))
  refine V_iload_n dL_does_76 rfl ?_
  refine V_iconst dL_does_77 ?_
  refine V_icmp_ne (tgt := 90) dL_does_78 (by decide) ⟨⟨by decide, by decide⟩, ⟨by decide, by decide⟩⟩ (fun _ => ?_) (fun h => absurd h (by decide))
  refine V_iload_n dL_does_90 rfl ?_
  refine V_iconst dL_does_91 ?_
  refine V_icmp_ne (tgt := 112) dL_does_92 (by decide) ⟨⟨by decide, by decide⟩, ⟨by decide, by decide⟩⟩ (fun _ => ?_) (fun h => absurd h (by decide))
  refine V_iload_n dL_does_112 rfl ?_
  refine V_bipush dL_does_113 (by decide) ?_
  refine V_icmp_ne (tgt := 135) dL_does_115 (by decide) ⟨⟨by decide, by decide⟩, ⟨by decide, by decide⟩⟩ (fun h => absurd h (by decide)) (fun _ => ?_)
  refine V_aload_n dL_does_118 rfl ?_
  refine V_iload_n dL_does_119 rfl ?_
  refine V_iload_n dL_does_120 rfl ?_
  refine V_callXVAH (As := [.int (zI a1), .int (zI a2)]) (b := c 0) (q0 := 0) (ci := 9) (fs := cwF c κ) (T := TX10) (N := 9) rfl rfl (wc := fm (cO en c κ)) (wr := []) (List.append_nil _).symm hK hT (MCX.env EX.en (k_setOffset en c κ a1 a2 P ⟨hM, hC.1, h0, h1, hC.2.1, hC.2.2⟩)) mokX10_setOffset w782 w783 w784 ⟨Nat.le_of_ble_eq_true rfl, Nat.le_of_ble_eq_true rfl⟩ rfl (Nat.le_of_ble_eq_true rfl) ⟨Nat.le_of_ble_eq_true rfl, Nat.le_of_ble_eq_true rfl⟩ dL_does_121 (fun X w hx => ?_) (fun v w hx => ?_)
  · obtain ⟨κ9, rfl, hC9, hP9, hL⟩ := hx
    simp only [List.mem_cons, List.not_mem_nil, or_false, Prod.mk.injEq] at hL
    rcases hL with ⟨e, rfl⟩ | ⟨e, rfl⟩
    · refine ⟨298, ⟨tableOf [], ⟨0, 297, 298, 71⟩, tableOf [(0, 297, 304, 73), (0, 297, 310, 75)], rfl, fun z hz => absurd hz List.not_mem_nil, by decide, by decide, w510, wn710, rfl⟩, fun q => ?_⟩
      rw [List.append_nil]
      refine V_astore (L' := [some (.ref (c 0)), some (.int (zI 6)), some (.int (zI a1)), some (.int (zI a2)), some (.int (zI a3)), some (.int (zI a4)), some (.int (zI a5)), some (.ref q)]) dL_does_298 (by decide) rfl ?_
      refine V_sipush dL_does_300 (by decide) ?_
      refine V_iret hR rfl (Nat.le_of_ble_eq_true rfl) (Nat.le_of_ble_eq_true rfl) dL_does_303 ?_
      exact ⟨κ9, by rw [dvl_1 e], rfl, by rw [hP9]; exact hC9⟩
    · refine ⟨304, ⟨tableOf [(0, 297, 298, 71)], ⟨0, 297, 304, 73⟩, tableOf [(0, 297, 310, 75)], rfl, all1 ⟨by decide, _, w510, by simp [NcL]⟩, by decide, by decide, w511, wn522, rfl⟩, fun q => ?_⟩
      rw [List.append_nil]
      refine V_astore (L' := [some (.ref (c 0)), some (.int (zI 6)), some (.int (zI a1)), some (.int (zI a2)), some (.int (zI a3)), some (.int (zI a4)), some (.int (zI a5)), some (.ref q)]) dL_does_304 (by decide) rfl ?_
      refine V_sipush dL_does_306 (by decide) ?_
      refine V_iret hR rfl (Nat.le_of_ble_eq_true rfl) (Nat.le_of_ble_eq_true rfl) dL_does_309 ?_
      exact ⟨κ9, by rw [dvl_2 e], rfl, by rw [hP9]; exact hC9⟩
  · obtain ⟨κ2, rfl, rfl, e1, hC2⟩ := hx
    rw [List.append_nil]
    show V K sL_does 2 12 (fm (cO en c κ2)) [some (.ref (c 0)), some (.int (zI 6)), some (.int (zI a1)), some (.int (zI a2)), some (.int (zI a3)), some (.int (zI a4)), some (.int (zI a5)), none] [.int (zI ((sp_setOffset P a1 a2).2.1))] 124
    have hbl : ((sp_setOffset P a1 a2).2.1) = 0 ∨ ((sp_setOffset P a1 a2).2.1) = 1 := gd_b (fun _ => gd_b (fun _ => bzv _))
    refine V_if_eq (tgt := 131) dL_does_124 (by decide) ⟨by omega, by omega⟩ (fun hb0 => ?_) (fun hb0 => ?_)
    · refine V_iconst dL_does_131 ?_
      refine V_goto (tgt := 297) dL_does_132 (by decide) ?_
      refine V_iret hR rfl (Nat.le_of_ble_eq_true rfl) (Nat.le_of_ble_eq_true rfl) dL_does_297 ?_
      exact ⟨κ2, by rw [dvl_0 e1, hb0], rfl, hC2⟩
    · refine V_iconst dL_does_127 ?_
      refine V_goto (tgt := 297) dL_does_128 (by decide) ?_
      refine V_iret hR rfl (Nat.le_of_ble_eq_true rfl) (Nat.le_of_ble_eq_true rfl) dL_does_297 ?_
      exact ⟨κ2, by rw [dvl_0 e1, hbl.resolve_left hb0], rfl, hC2⟩
set_option maxRecDepth 100000 in
set_option maxHeartbeats 4000000 in
theorem d_7 (en c : Nat → Nat) (κ : St) (a1 a2 a3 a4 a5 : Int) (P : St) (hp : MI P ∧ CWP P κ ∧ iR a1 ∧ iR a2) : MCH (EX en) yL_does sL_does [(0, 297, 298, 71), (0, 297, 304, 73), (0, 297, 310, 75)] [.ref (c 0), .int (zI 7), .int (zI a1), .int (zI a2), .int (zI a3), .int (zI a4), .int (zI a5)] (fm (cO en c κ)) (DLR en c (-3000) (-2000) 0 (sp_keepRest P a1 a2)) := by
  obtain ⟨hM, hC, h0, h1⟩ := hp
  refine MCH.of (EX.stb en) [some (.ref (c 0)), some (.int (zI 7)), some (.int (zI a1)), some (.int (zI a2)), some (.int (zI a3)), some (.int (zI a4)), some (.int (zI a5)), none] 1 rfl rfl rfl (by simp [Value.category]) (Nat.le_of_ble_eq_true rfl) (fun K hK hT hR => ?_)
  refine V_iload_n dL_does_0 rfl ?_
  refine V_if_ne (tgt := 12) dL_does_1 (by decide) ⟨by decide, by decide⟩ (fun _ => ?_) (fun h => absurd h (by decide))
  refine V_iload_n dL_does_12 rfl ?_
  refine V_iconst dL_does_13 ?_
  refine V_icmp_ne (tgt := 32) dL_does_14 (by decide) ⟨⟨by decide, by decide⟩, ⟨by decide, by decide⟩⟩ (fun _ => ?_) (fun h => absurd h (by decide))
  refine V_iload_n dL_does_32 rfl ?_
  refine V_iconst dL_does_33 ?_
  refine V_icmp_ne (tgt := 45) dL_does_34 (by decide) ⟨⟨by decide, by decide⟩, ⟨by decide, by decide⟩⟩ (fun _ => ?_) (fun h => absurd h (by decide))
  refine V_iload_n dL_does_45 rfl ?_
  refine V_iconst dL_does_46 ?_
  refine V_icmp_ne (tgt := 76) dL_does_47 (by decide) ⟨⟨by decide, by decide⟩, ⟨by decide, by decide⟩⟩ (fun _ => ?_) (fun h => absurd h (by decide))
  refine V_iload_n dL_does_76 rfl ?_
  refine V_iconst dL_does_77 ?_
  refine V_icmp_ne (tgt := 90) dL_does_78 (by decide) ⟨⟨by decide, by decide⟩, ⟨by decide, by decide⟩⟩ (fun _ => ?_) (fun h => absurd h (by decide))
  refine V_iload_n dL_does_90 rfl ?_
  refine V_iconst dL_does_91 ?_
  refine V_icmp_ne (tgt := 112) dL_does_92 (by decide) ⟨⟨by decide, by decide⟩, ⟨by decide, by decide⟩⟩ (fun _ => ?_) (fun h => absurd h (by decide))
  refine V_iload_n dL_does_112 rfl ?_
  refine V_bipush dL_does_113 (by decide) ?_
  refine V_icmp_ne (tgt := 135) dL_does_115 (by decide) ⟨⟨by decide, by decide⟩, ⟨by decide, by decide⟩⟩ (fun _ => ?_) (fun h => absurd h (by decide))
  refine V_iload_n dL_does_135 rfl ?_
  refine V_bipush dL_does_136 (by decide) ?_
  refine V_icmp_ne (tgt := 150) dL_does_138 (by decide) ⟨⟨by decide, by decide⟩, ⟨by decide, by decide⟩⟩ (fun h => absurd h (by decide)) (fun _ => ?_)
  refine V_aload_n dL_does_141 rfl ?_
  refine V_iload_n dL_does_142 rfl ?_
  refine V_iload_n dL_does_143 rfl ?_
  refine V_callXVAH (As := [.int (zI a1), .int (zI a2)]) (b := c 0) (q0 := 0) (ci := 9) (fs := cwF c κ) (T := TX10) (N := 9) rfl rfl (wc := fm (cO en c κ)) (wr := []) (List.append_nil _).symm hK hT (MCX.env EX.en (k_keepRest en c κ a1 a2 P ⟨hM, hC.1, h0, h1, hC.2.1, hC.2.2⟩)) mokX10_keepRest w786 w787 w788 ⟨Nat.le_of_ble_eq_true rfl, Nat.le_of_ble_eq_true rfl⟩ rfl (Nat.le_of_ble_eq_true rfl) ⟨Nat.le_of_ble_eq_true rfl, Nat.le_of_ble_eq_true rfl⟩ dL_does_144 (fun X w hx => ?_) (fun v w hx => ?_)
  · obtain ⟨κ9, rfl, hC9, hP9, hL⟩ := hx
    simp only [List.mem_cons, List.not_mem_nil, or_false, Prod.mk.injEq] at hL
    rcases hL with ⟨e, rfl⟩ | ⟨e, rfl⟩
    · refine ⟨298, ⟨tableOf [], ⟨0, 297, 298, 71⟩, tableOf [(0, 297, 304, 73), (0, 297, 310, 75)], rfl, fun z hz => absurd hz List.not_mem_nil, by decide, by decide, w510, wn710, rfl⟩, fun q => ?_⟩
      rw [List.append_nil]
      refine V_astore (L' := [some (.ref (c 0)), some (.int (zI 7)), some (.int (zI a1)), some (.int (zI a2)), some (.int (zI a3)), some (.int (zI a4)), some (.int (zI a5)), some (.ref q)]) dL_does_298 (by decide) rfl ?_
      refine V_sipush dL_does_300 (by decide) ?_
      refine V_iret hR rfl (Nat.le_of_ble_eq_true rfl) (Nat.le_of_ble_eq_true rfl) dL_does_303 ?_
      exact ⟨κ9, by rw [dvl_1 e], rfl, by rw [hP9]; exact hC9⟩
    · refine ⟨304, ⟨tableOf [(0, 297, 298, 71)], ⟨0, 297, 304, 73⟩, tableOf [(0, 297, 310, 75)], rfl, all1 ⟨by decide, _, w510, by simp [NcL]⟩, by decide, by decide, w511, wn522, rfl⟩, fun q => ?_⟩
      rw [List.append_nil]
      refine V_astore (L' := [some (.ref (c 0)), some (.int (zI 7)), some (.int (zI a1)), some (.int (zI a2)), some (.int (zI a3)), some (.int (zI a4)), some (.int (zI a5)), some (.ref q)]) dL_does_304 (by decide) rfl ?_
      refine V_sipush dL_does_306 (by decide) ?_
      refine V_iret hR rfl (Nat.le_of_ble_eq_true rfl) (Nat.le_of_ble_eq_true rfl) dL_does_309 ?_
      exact ⟨κ9, by rw [dvl_2 e], rfl, by rw [hP9]; exact hC9⟩
  · obtain ⟨κ2, rfl, rfl, e1, hC2⟩ := hx
    rw [List.append_nil]
    show V K sL_does 2 12 (fm (cO en c κ2)) [some (.ref (c 0)), some (.int (zI 7)), some (.int (zI a1)), some (.int (zI a2)), some (.int (zI a3)), some (.int (zI a4)), some (.int (zI a5)), none] [.int (zI ((sp_keepRest P a1 a2).2.1))] 147
    refine V_goto (tgt := 297) dL_does_147 (by decide) ?_
    refine V_iret hR rfl (Nat.le_of_ble_eq_true rfl) (Nat.le_of_ble_eq_true rfl) dL_does_297 ?_
    exact ⟨κ2, by rw [dvl_0 e1], rfl, hC2⟩
set_option maxRecDepth 100000 in
set_option maxHeartbeats 4000000 in
theorem d_8 (en c : Nat → Nat) (κ : St) (a1 a2 a3 a4 a5 : Int) (P : St) (hp : MI P ∧ CWP P κ ∧ iR a1 ∧ iR a2 ∧ iR a3) : MCH (EX en) yL_does sL_does [(0, 297, 298, 71), (0, 297, 304, 73), (0, 297, 310, 75)] [.ref (c 0), .int (zI 8), .int (zI a1), .int (zI a2), .int (zI a3), .int (zI a4), .int (zI a5)] (fm (cO en c κ)) (DLR en c (-3000) (-2000) 0 (sp_keepTwoRests P a1 a2 a3)) := by
  obtain ⟨hM, hC, h0, h1, h2⟩ := hp
  refine MCH.of (EX.stb en) [some (.ref (c 0)), some (.int (zI 8)), some (.int (zI a1)), some (.int (zI a2)), some (.int (zI a3)), some (.int (zI a4)), some (.int (zI a5)), none] 1 rfl rfl rfl (by simp [Value.category]) (Nat.le_of_ble_eq_true rfl) (fun K hK hT hR => ?_)
  refine V_iload_n dL_does_0 rfl ?_
  refine V_if_ne (tgt := 12) dL_does_1 (by decide) ⟨by decide, by decide⟩ (fun _ => ?_) (fun h => absurd h (by decide))
  refine V_iload_n dL_does_12 rfl ?_
  refine V_iconst dL_does_13 ?_
  refine V_icmp_ne (tgt := 32) dL_does_14 (by decide) ⟨⟨by decide, by decide⟩, ⟨by decide, by decide⟩⟩ (fun _ => ?_) (fun h => absurd h (by decide))
  refine V_iload_n dL_does_32 rfl ?_
  refine V_iconst dL_does_33 ?_
  refine V_icmp_ne (tgt := 45) dL_does_34 (by decide) ⟨⟨by decide, by decide⟩, ⟨by decide, by decide⟩⟩ (fun _ => ?_) (fun h => absurd h (by decide))
  refine V_iload_n dL_does_45 rfl ?_
  refine V_iconst dL_does_46 ?_
  refine V_icmp_ne (tgt := 76) dL_does_47 (by decide) ⟨⟨by decide, by decide⟩, ⟨by decide, by decide⟩⟩ (fun _ => ?_) (fun h => absurd h (by decide))
  refine V_iload_n dL_does_76 rfl ?_
  refine V_iconst dL_does_77 ?_
  refine V_icmp_ne (tgt := 90) dL_does_78 (by decide) ⟨⟨by decide, by decide⟩, ⟨by decide, by decide⟩⟩ (fun _ => ?_) (fun h => absurd h (by decide))
  refine V_iload_n dL_does_90 rfl ?_
  refine V_iconst dL_does_91 ?_
  refine V_icmp_ne (tgt := 112) dL_does_92 (by decide) ⟨⟨by decide, by decide⟩, ⟨by decide, by decide⟩⟩ (fun _ => ?_) (fun h => absurd h (by decide))
  refine V_iload_n dL_does_112 rfl ?_
  refine V_bipush dL_does_113 (by decide) ?_
  refine V_icmp_ne (tgt := 135) dL_does_115 (by decide) ⟨⟨by decide, by decide⟩, ⟨by decide, by decide⟩⟩ (fun _ => ?_) (fun h => absurd h (by decide))
  refine V_iload_n dL_does_135 rfl ?_
  refine V_bipush dL_does_136 (by decide) ?_
  refine V_icmp_ne (tgt := 150) dL_does_138 (by decide) ⟨⟨by decide, by decide⟩, ⟨by decide, by decide⟩⟩ (fun _ => ?_) (fun h => absurd h (by decide))
  refine V_iload_n dL_does_150 rfl ?_
  refine V_bipush dL_does_151 (by decide) ?_
  refine V_icmp_ne (tgt := 167) dL_does_153 (by decide) ⟨⟨by decide, by decide⟩, ⟨by decide, by decide⟩⟩ (fun h => absurd h (by decide)) (fun _ => ?_)
  refine V_aload_n dL_does_156 rfl ?_
  refine V_iload_n dL_does_157 rfl ?_
  refine V_iload_n dL_does_158 rfl ?_
  refine V_iload dL_does_159 rfl ?_
  refine V_callXVAH (As := [.int (zI a1), .int (zI a2), .int (zI a3)]) (b := c 0) (q0 := 0) (ci := 9) (fs := cwF c κ) (T := TX10) (N := 9) rfl rfl (wc := fm (cO en c κ)) (wr := []) (List.append_nil _).symm hK hT (MCX.env EX.en (k_keepTwoRests en c κ a1 a2 a3 P ⟨hM, hC.1, h0, h1, h2, hC.2.1, hC.2.2⟩)) mokX10_keepTwoRests w791 w792 w793 ⟨Nat.le_of_ble_eq_true rfl, Nat.le_of_ble_eq_true rfl⟩ rfl (Nat.le_of_ble_eq_true rfl) ⟨Nat.le_of_ble_eq_true rfl, Nat.le_of_ble_eq_true rfl⟩ dL_does_161 (fun X w hx => ?_) (fun v w hx => ?_)
  · obtain ⟨κ9, rfl, hC9, hP9, hL⟩ := hx
    simp only [List.mem_cons, List.not_mem_nil, or_false, Prod.mk.injEq] at hL
    rcases hL with ⟨e, rfl⟩ | ⟨e, rfl⟩
    · refine ⟨298, ⟨tableOf [], ⟨0, 297, 298, 71⟩, tableOf [(0, 297, 304, 73), (0, 297, 310, 75)], rfl, fun z hz => absurd hz List.not_mem_nil, by decide, by decide, w510, wn710, rfl⟩, fun q => ?_⟩
      rw [List.append_nil]
      refine V_astore (L' := [some (.ref (c 0)), some (.int (zI 8)), some (.int (zI a1)), some (.int (zI a2)), some (.int (zI a3)), some (.int (zI a4)), some (.int (zI a5)), some (.ref q)]) dL_does_298 (by decide) rfl ?_
      refine V_sipush dL_does_300 (by decide) ?_
      refine V_iret hR rfl (Nat.le_of_ble_eq_true rfl) (Nat.le_of_ble_eq_true rfl) dL_does_303 ?_
      exact ⟨κ9, by rw [dvl_1 e], rfl, by rw [hP9]; exact hC9⟩
    · refine ⟨304, ⟨tableOf [(0, 297, 298, 71)], ⟨0, 297, 304, 73⟩, tableOf [(0, 297, 310, 75)], rfl, all1 ⟨by decide, _, w510, by simp [NcL]⟩, by decide, by decide, w511, wn522, rfl⟩, fun q => ?_⟩
      rw [List.append_nil]
      refine V_astore (L' := [some (.ref (c 0)), some (.int (zI 8)), some (.int (zI a1)), some (.int (zI a2)), some (.int (zI a3)), some (.int (zI a4)), some (.int (zI a5)), some (.ref q)]) dL_does_304 (by decide) rfl ?_
      refine V_sipush dL_does_306 (by decide) ?_
      refine V_iret hR rfl (Nat.le_of_ble_eq_true rfl) (Nat.le_of_ble_eq_true rfl) dL_does_309 ?_
      exact ⟨κ9, by rw [dvl_2 e], rfl, by rw [hP9]; exact hC9⟩
  · obtain ⟨κ2, rfl, rfl, e1, hC2⟩ := hx
    rw [List.append_nil]
    show V K sL_does 3 18 (fm (cO en c κ2)) [some (.ref (c 0)), some (.int (zI 8)), some (.int (zI a1)), some (.int (zI a2)), some (.int (zI a3)), some (.int (zI a4)), some (.int (zI a5)), none] [.int (zI ((sp_keepTwoRests P a1 a2 a3).2.1))] 164
    refine V_goto (tgt := 297) dL_does_164 (by decide) ?_
    refine V_iret hR rfl (Nat.le_of_ble_eq_true rfl) (Nat.le_of_ble_eq_true rfl) dL_does_297 ?_
    exact ⟨κ2, by rw [dvl_0 e1], rfl, hC2⟩
set_option maxRecDepth 100000 in
set_option maxHeartbeats 4000000 in
theorem d_9 (en c : Nat → Nat) (κ : St) (a1 a2 a3 a4 a5 : Int) (P : St) (hp : MI P ∧ CWP P κ ∧ iR a1 ∧ iR a2 ∧ iR a3) : MCH (EX en) yL_does sL_does [(0, 297, 298, 71), (0, 297, 304, 73), (0, 297, 310, 75)] [.ref (c 0), .int (zI 9), .int (zI a1), .int (zI a2), .int (zI a3), .int (zI a4), .int (zI a5)] (fm (cO en c κ)) (DLR en c (-3000) (-2000) 0 (sp_keepSlant P a1 a2 a3)) := by
  obtain ⟨hM, hC, h0, h1, h2⟩ := hp
  refine MCH.of (EX.stb en) [some (.ref (c 0)), some (.int (zI 9)), some (.int (zI a1)), some (.int (zI a2)), some (.int (zI a3)), some (.int (zI a4)), some (.int (zI a5)), none] 1 rfl rfl rfl (by simp [Value.category]) (Nat.le_of_ble_eq_true rfl) (fun K hK hT hR => ?_)
  refine V_iload_n dL_does_0 rfl ?_
  refine V_if_ne (tgt := 12) dL_does_1 (by decide) ⟨by decide, by decide⟩ (fun _ => ?_) (fun h => absurd h (by decide))
  refine V_iload_n dL_does_12 rfl ?_
  refine V_iconst dL_does_13 ?_
  refine V_icmp_ne (tgt := 32) dL_does_14 (by decide) ⟨⟨by decide, by decide⟩, ⟨by decide, by decide⟩⟩ (fun _ => ?_) (fun h => absurd h (by decide))
  refine V_iload_n dL_does_32 rfl ?_
  refine V_iconst dL_does_33 ?_
  refine V_icmp_ne (tgt := 45) dL_does_34 (by decide) ⟨⟨by decide, by decide⟩, ⟨by decide, by decide⟩⟩ (fun _ => ?_) (fun h => absurd h (by decide))
  refine V_iload_n dL_does_45 rfl ?_
  refine V_iconst dL_does_46 ?_
  refine V_icmp_ne (tgt := 76) dL_does_47 (by decide) ⟨⟨by decide, by decide⟩, ⟨by decide, by decide⟩⟩ (fun _ => ?_) (fun h => absurd h (by decide))
  refine V_iload_n dL_does_76 rfl ?_
  refine V_iconst dL_does_77 ?_
  refine V_icmp_ne (tgt := 90) dL_does_78 (by decide) ⟨⟨by decide, by decide⟩, ⟨by decide, by decide⟩⟩ (fun _ => ?_) (fun h => absurd h (by decide))
  refine V_iload_n dL_does_90 rfl ?_
  refine V_iconst dL_does_91 ?_
  refine V_icmp_ne (tgt := 112) dL_does_92 (by decide) ⟨⟨by decide, by decide⟩, ⟨by decide, by decide⟩⟩ (fun _ => ?_) (fun h => absurd h (by decide))
  refine V_iload_n dL_does_112 rfl ?_
  refine V_bipush dL_does_113 (by decide) ?_
  refine V_icmp_ne (tgt := 135) dL_does_115 (by decide) ⟨⟨by decide, by decide⟩, ⟨by decide, by decide⟩⟩ (fun _ => ?_) (fun h => absurd h (by decide))
  refine V_iload_n dL_does_135 rfl ?_
  refine V_bipush dL_does_136 (by decide) ?_
  refine V_icmp_ne (tgt := 150) dL_does_138 (by decide) ⟨⟨by decide, by decide⟩, ⟨by decide, by decide⟩⟩ (fun _ => ?_) (fun h => absurd h (by decide))
  refine V_iload_n dL_does_150 rfl ?_
  refine V_bipush dL_does_151 (by decide) ?_
  refine V_icmp_ne (tgt := 167) dL_does_153 (by decide) ⟨⟨by decide, by decide⟩, ⟨by decide, by decide⟩⟩ (fun _ => ?_) (fun h => absurd h (by decide))
  refine V_iload_n dL_does_167 rfl ?_
  refine V_bipush dL_does_168 (by decide) ?_
  refine V_icmp_ne (tgt := 184) dL_does_170 (by decide) ⟨⟨by decide, by decide⟩, ⟨by decide, by decide⟩⟩ (fun h => absurd h (by decide)) (fun _ => ?_)
  refine V_aload_n dL_does_173 rfl ?_
  refine V_iload_n dL_does_174 rfl ?_
  refine V_iload_n dL_does_175 rfl ?_
  refine V_iload dL_does_176 rfl ?_
  refine V_callXVAH (As := [.int (zI a1), .int (zI a2), .int (zI a3)]) (b := c 0) (q0 := 0) (ci := 9) (fs := cwF c κ) (T := TX10) (N := 9) rfl rfl (wc := fm (cO en c κ)) (wr := []) (List.append_nil _).symm hK hT (MCX.env EX.en (k_keepSlant en c κ a1 a2 a3 P ⟨hM, hC.1, h0, h1, h2, hC.2.1, hC.2.2⟩)) mokX10_keepSlant w796 w797 w798 ⟨Nat.le_of_ble_eq_true rfl, Nat.le_of_ble_eq_true rfl⟩ rfl (Nat.le_of_ble_eq_true rfl) ⟨Nat.le_of_ble_eq_true rfl, Nat.le_of_ble_eq_true rfl⟩ dL_does_178 (fun X w hx => ?_) (fun v w hx => ?_)
  · obtain ⟨κ9, rfl, hC9, hP9, hL⟩ := hx
    simp only [List.mem_cons, List.not_mem_nil, or_false, Prod.mk.injEq] at hL
    rcases hL with ⟨e, rfl⟩ | ⟨e, rfl⟩
    · refine ⟨298, ⟨tableOf [], ⟨0, 297, 298, 71⟩, tableOf [(0, 297, 304, 73), (0, 297, 310, 75)], rfl, fun z hz => absurd hz List.not_mem_nil, by decide, by decide, w510, wn710, rfl⟩, fun q => ?_⟩
      rw [List.append_nil]
      refine V_astore (L' := [some (.ref (c 0)), some (.int (zI 9)), some (.int (zI a1)), some (.int (zI a2)), some (.int (zI a3)), some (.int (zI a4)), some (.int (zI a5)), some (.ref q)]) dL_does_298 (by decide) rfl ?_
      refine V_sipush dL_does_300 (by decide) ?_
      refine V_iret hR rfl (Nat.le_of_ble_eq_true rfl) (Nat.le_of_ble_eq_true rfl) dL_does_303 ?_
      exact ⟨κ9, by rw [dvl_1 e], rfl, by rw [hP9]; exact hC9⟩
    · refine ⟨304, ⟨tableOf [(0, 297, 298, 71)], ⟨0, 297, 304, 73⟩, tableOf [(0, 297, 310, 75)], rfl, all1 ⟨by decide, _, w510, by simp [NcL]⟩, by decide, by decide, w511, wn522, rfl⟩, fun q => ?_⟩
      rw [List.append_nil]
      refine V_astore (L' := [some (.ref (c 0)), some (.int (zI 9)), some (.int (zI a1)), some (.int (zI a2)), some (.int (zI a3)), some (.int (zI a4)), some (.int (zI a5)), some (.ref q)]) dL_does_304 (by decide) rfl ?_
      refine V_sipush dL_does_306 (by decide) ?_
      refine V_iret hR rfl (Nat.le_of_ble_eq_true rfl) (Nat.le_of_ble_eq_true rfl) dL_does_309 ?_
      exact ⟨κ9, by rw [dvl_2 e], rfl, by rw [hP9]; exact hC9⟩
  · obtain ⟨κ2, rfl, rfl, e1, hC2⟩ := hx
    rw [List.append_nil]
    show V K sL_does 3 18 (fm (cO en c κ2)) [some (.ref (c 0)), some (.int (zI 9)), some (.int (zI a1)), some (.int (zI a2)), some (.int (zI a3)), some (.int (zI a4)), some (.int (zI a5)), none] [.int (zI ((sp_keepSlant P a1 a2 a3).2.1))] 181
    refine V_goto (tgt := 297) dL_does_181 (by decide) ?_
    refine V_iret hR rfl (Nat.le_of_ble_eq_true rfl) (Nat.le_of_ble_eq_true rfl) dL_does_297 ?_
    exact ⟨κ2, by rw [dvl_0 e1], rfl, hC2⟩
set_option maxRecDepth 100000 in
set_option maxHeartbeats 4000000 in
theorem d_10 (en c : Nat → Nat) (κ : St) (a1 a2 a3 a4 a5 : Int) (P : St) (hp : MI P ∧ CWP P κ) : MCH (EX en) yL_does sL_does [(0, 297, 298, 71), (0, 297, 304, 73), (0, 297, 310, 75)] [.ref (c 0), .int (zI 10), .int (zI a1), .int (zI a2), .int (zI a3), .int (zI a4), .int (zI a5)] (fm (cO en c κ)) (DLR en c (-1000) 0 0 (sp_bestRoom P)) := by
  obtain ⟨hM, hC⟩ := hp
  refine MCH.of (EX.stb en) [some (.ref (c 0)), some (.int (zI 10)), some (.int (zI a1)), some (.int (zI a2)), some (.int (zI a3)), some (.int (zI a4)), some (.int (zI a5)), none] 1 rfl rfl rfl (by simp [Value.category]) (Nat.le_of_ble_eq_true rfl) (fun K hK hT hR => ?_)
  refine V_iload_n dL_does_0 rfl ?_
  refine V_if_ne (tgt := 12) dL_does_1 (by decide) ⟨by decide, by decide⟩ (fun _ => ?_) (fun h => absurd h (by decide))
  refine V_iload_n dL_does_12 rfl ?_
  refine V_iconst dL_does_13 ?_
  refine V_icmp_ne (tgt := 32) dL_does_14 (by decide) ⟨⟨by decide, by decide⟩, ⟨by decide, by decide⟩⟩ (fun _ => ?_) (fun h => absurd h (by decide))
  refine V_iload_n dL_does_32 rfl ?_
  refine V_iconst dL_does_33 ?_
  refine V_icmp_ne (tgt := 45) dL_does_34 (by decide) ⟨⟨by decide, by decide⟩, ⟨by decide, by decide⟩⟩ (fun _ => ?_) (fun h => absurd h (by decide))
  refine V_iload_n dL_does_45 rfl ?_
  refine V_iconst dL_does_46 ?_
  refine V_icmp_ne (tgt := 76) dL_does_47 (by decide) ⟨⟨by decide, by decide⟩, ⟨by decide, by decide⟩⟩ (fun _ => ?_) (fun h => absurd h (by decide))
  refine V_iload_n dL_does_76 rfl ?_
  refine V_iconst dL_does_77 ?_
  refine V_icmp_ne (tgt := 90) dL_does_78 (by decide) ⟨⟨by decide, by decide⟩, ⟨by decide, by decide⟩⟩ (fun _ => ?_) (fun h => absurd h (by decide))
  refine V_iload_n dL_does_90 rfl ?_
  refine V_iconst dL_does_91 ?_
  refine V_icmp_ne (tgt := 112) dL_does_92 (by decide) ⟨⟨by decide, by decide⟩, ⟨by decide, by decide⟩⟩ (fun _ => ?_) (fun h => absurd h (by decide))
  refine V_iload_n dL_does_112 rfl ?_
  refine V_bipush dL_does_113 (by decide) ?_
  refine V_icmp_ne (tgt := 135) dL_does_115 (by decide) ⟨⟨by decide, by decide⟩, ⟨by decide, by decide⟩⟩ (fun _ => ?_) (fun h => absurd h (by decide))
  refine V_iload_n dL_does_135 rfl ?_
  refine V_bipush dL_does_136 (by decide) ?_
  refine V_icmp_ne (tgt := 150) dL_does_138 (by decide) ⟨⟨by decide, by decide⟩, ⟨by decide, by decide⟩⟩ (fun _ => ?_) (fun h => absurd h (by decide))
  refine V_iload_n dL_does_150 rfl ?_
  refine V_bipush dL_does_151 (by decide) ?_
  refine V_icmp_ne (tgt := 167) dL_does_153 (by decide) ⟨⟨by decide, by decide⟩, ⟨by decide, by decide⟩⟩ (fun _ => ?_) (fun h => absurd h (by decide))
  refine V_iload_n dL_does_167 rfl ?_
  refine V_bipush dL_does_168 (by decide) ?_
  refine V_icmp_ne (tgt := 184) dL_does_170 (by decide) ⟨⟨by decide, by decide⟩, ⟨by decide, by decide⟩⟩ (fun _ => ?_) (fun h => absurd h (by decide))
  refine V_iload_n dL_does_184 rfl ?_
  refine V_bipush dL_does_185 (by decide) ?_
  refine V_icmp_ne (tgt := 197) dL_does_187 (by decide) ⟨⟨by decide, by decide⟩, ⟨by decide, by decide⟩⟩ (fun h => absurd h (by decide)) (fun _ => ?_)
  refine V_aload_n dL_does_190 rfl ?_
  refine V_callXVAH (As := []) (b := c 0) (q0 := 0) (ci := 9) (fs := cwF c κ) (T := TX10) (N := 9) rfl rfl (wc := fm (cO en c κ)) (wr := []) (List.append_nil _).symm hK hT (MCX.env EX.en (k_bestRoom en c κ P ⟨hM, hC.1, hC.2.1, hC.2.2⟩)) mokX10_bestRoom w801 w802 w803 ⟨Nat.le_of_ble_eq_true rfl, Nat.le_of_ble_eq_true rfl⟩ rfl (Nat.le_of_ble_eq_true rfl) ⟨Nat.le_of_ble_eq_true rfl, Nat.le_of_ble_eq_true rfl⟩ dL_does_191 (fun X w hx => ?_) (fun v w hx => ?_)
  · obtain ⟨κ9, rfl, hC9, hP9, hL⟩ := hx
    simp only [List.mem_cons, List.not_mem_nil, or_false, Prod.mk.injEq] at hL
    obtain ⟨e, rfl⟩ := hL
    refine ⟨310, ⟨tableOf [(0, 297, 298, 71), (0, 297, 304, 73)], ⟨0, 297, 310, 75⟩, tableOf [], rfl, all2 ⟨by decide, _, w510, by simp [NcL]⟩ ⟨by decide, _, w511, by simp [NcL]⟩, by decide, by decide, w512, wn590, rfl⟩, fun q => ?_⟩
    rw [List.append_nil]
    refine V_astore (L' := [some (.ref (c 0)), some (.int (zI 10)), some (.int (zI a1)), some (.int (zI a2)), some (.int (zI a3)), some (.int (zI a4)), some (.int (zI a5)), some (.ref q)]) dL_does_310 (by decide) rfl ?_
    refine V_sipush dL_does_312 (by decide) ?_
    refine V_iret hR rfl (Nat.le_of_ble_eq_true rfl) (Nat.le_of_ble_eq_true rfl) dL_does_315 ?_
    exact ⟨κ9, by rw [dvl_1 e], rfl, by rw [hP9]; exact hC9⟩
  · obtain ⟨κ2, rfl, rfl, e1, hC2⟩ := hx
    rw [List.append_nil]
    show V K sL_does 1 6 (fm (cO en c κ2)) [some (.ref (c 0)), some (.int (zI 10)), some (.int (zI a1)), some (.int (zI a2)), some (.int (zI a3)), some (.int (zI a4)), some (.int (zI a5)), none] [.int (zI ((sp_bestRoom P).2.1))] 194
    refine V_goto (tgt := 297) dL_does_194 (by decide) ?_
    refine V_iret hR rfl (Nat.le_of_ble_eq_true rfl) (Nat.le_of_ble_eq_true rfl) dL_does_297 ?_
    exact ⟨κ2, by rw [dvl_0 e1], rfl, hC2⟩
set_option maxRecDepth 100000 in
set_option maxHeartbeats 4000000 in
theorem d_11 (en c : Nat → Nat) (κ : St) (a1 a2 a3 a4 a5 : Int) (P : St) (hp : MI P ∧ CWP P κ) : MCH (EX en) yL_does sL_does [(0, 297, 298, 71), (0, 297, 304, 73), (0, 297, 310, 75)] [.ref (c 0), .int (zI 11), .int (zI a1), .int (zI a2), .int (zI a3), .int (zI a4), .int (zI a5)] (fm (cO en c κ)) (DLR en c (-1000) 0 0 (sp_bestRowWeight P)) := by
  obtain ⟨hM, hC⟩ := hp
  refine MCH.of (EX.stb en) [some (.ref (c 0)), some (.int (zI 11)), some (.int (zI a1)), some (.int (zI a2)), some (.int (zI a3)), some (.int (zI a4)), some (.int (zI a5)), none] 1 rfl rfl rfl (by simp [Value.category]) (Nat.le_of_ble_eq_true rfl) (fun K hK hT hR => ?_)
  refine V_iload_n dL_does_0 rfl ?_
  refine V_if_ne (tgt := 12) dL_does_1 (by decide) ⟨by decide, by decide⟩ (fun _ => ?_) (fun h => absurd h (by decide))
  refine V_iload_n dL_does_12 rfl ?_
  refine V_iconst dL_does_13 ?_
  refine V_icmp_ne (tgt := 32) dL_does_14 (by decide) ⟨⟨by decide, by decide⟩, ⟨by decide, by decide⟩⟩ (fun _ => ?_) (fun h => absurd h (by decide))
  refine V_iload_n dL_does_32 rfl ?_
  refine V_iconst dL_does_33 ?_
  refine V_icmp_ne (tgt := 45) dL_does_34 (by decide) ⟨⟨by decide, by decide⟩, ⟨by decide, by decide⟩⟩ (fun _ => ?_) (fun h => absurd h (by decide))
  refine V_iload_n dL_does_45 rfl ?_
  refine V_iconst dL_does_46 ?_
  refine V_icmp_ne (tgt := 76) dL_does_47 (by decide) ⟨⟨by decide, by decide⟩, ⟨by decide, by decide⟩⟩ (fun _ => ?_) (fun h => absurd h (by decide))
  refine V_iload_n dL_does_76 rfl ?_
  refine V_iconst dL_does_77 ?_
  refine V_icmp_ne (tgt := 90) dL_does_78 (by decide) ⟨⟨by decide, by decide⟩, ⟨by decide, by decide⟩⟩ (fun _ => ?_) (fun h => absurd h (by decide))
  refine V_iload_n dL_does_90 rfl ?_
  refine V_iconst dL_does_91 ?_
  refine V_icmp_ne (tgt := 112) dL_does_92 (by decide) ⟨⟨by decide, by decide⟩, ⟨by decide, by decide⟩⟩ (fun _ => ?_) (fun h => absurd h (by decide))
  refine V_iload_n dL_does_112 rfl ?_
  refine V_bipush dL_does_113 (by decide) ?_
  refine V_icmp_ne (tgt := 135) dL_does_115 (by decide) ⟨⟨by decide, by decide⟩, ⟨by decide, by decide⟩⟩ (fun _ => ?_) (fun h => absurd h (by decide))
  refine V_iload_n dL_does_135 rfl ?_
  refine V_bipush dL_does_136 (by decide) ?_
  refine V_icmp_ne (tgt := 150) dL_does_138 (by decide) ⟨⟨by decide, by decide⟩, ⟨by decide, by decide⟩⟩ (fun _ => ?_) (fun h => absurd h (by decide))
  refine V_iload_n dL_does_150 rfl ?_
  refine V_bipush dL_does_151 (by decide) ?_
  refine V_icmp_ne (tgt := 167) dL_does_153 (by decide) ⟨⟨by decide, by decide⟩, ⟨by decide, by decide⟩⟩ (fun _ => ?_) (fun h => absurd h (by decide))
  refine V_iload_n dL_does_167 rfl ?_
  refine V_bipush dL_does_168 (by decide) ?_
  refine V_icmp_ne (tgt := 184) dL_does_170 (by decide) ⟨⟨by decide, by decide⟩, ⟨by decide, by decide⟩⟩ (fun _ => ?_) (fun h => absurd h (by decide))
  refine V_iload_n dL_does_184 rfl ?_
  refine V_bipush dL_does_185 (by decide) ?_
  refine V_icmp_ne (tgt := 197) dL_does_187 (by decide) ⟨⟨by decide, by decide⟩, ⟨by decide, by decide⟩⟩ (fun _ => ?_) (fun h => absurd h (by decide))
  refine V_iload_n dL_does_197 rfl ?_
  refine V_bipush dL_does_198 (by decide) ?_
  refine V_icmp_ne (tgt := 210) dL_does_200 (by decide) ⟨⟨by decide, by decide⟩, ⟨by decide, by decide⟩⟩ (fun h => absurd h (by decide)) (fun _ => ?_)
  refine V_aload_n dL_does_203 rfl ?_
  refine V_callXVAH (As := []) (b := c 0) (q0 := 0) (ci := 9) (fs := cwF c κ) (T := TX10) (N := 9) rfl rfl (wc := fm (cO en c κ)) (wr := []) (List.append_nil _).symm hK hT (MCX.env EX.en (k_bestRowWeight en c κ P ⟨hM, hC.1, hC.2.1, hC.2.2⟩)) mokX10_bestRowWeight w818 w819 w820 ⟨Nat.le_of_ble_eq_true rfl, Nat.le_of_ble_eq_true rfl⟩ rfl (Nat.le_of_ble_eq_true rfl) ⟨Nat.le_of_ble_eq_true rfl, Nat.le_of_ble_eq_true rfl⟩ dL_does_204 (fun X w hx => ?_) (fun v w hx => ?_)
  · obtain ⟨κ9, rfl, hC9, hP9, hL⟩ := hx
    simp only [List.mem_cons, List.not_mem_nil, or_false, Prod.mk.injEq] at hL
    obtain ⟨e, rfl⟩ := hL
    refine ⟨310, ⟨tableOf [(0, 297, 298, 71), (0, 297, 304, 73)], ⟨0, 297, 310, 75⟩, tableOf [], rfl, all2 ⟨by decide, _, w510, by simp [NcL]⟩ ⟨by decide, _, w511, by simp [NcL]⟩, by decide, by decide, w512, wn590, rfl⟩, fun q => ?_⟩
    rw [List.append_nil]
    refine V_astore (L' := [some (.ref (c 0)), some (.int (zI 11)), some (.int (zI a1)), some (.int (zI a2)), some (.int (zI a3)), some (.int (zI a4)), some (.int (zI a5)), some (.ref q)]) dL_does_310 (by decide) rfl ?_
    refine V_sipush dL_does_312 (by decide) ?_
    refine V_iret hR rfl (Nat.le_of_ble_eq_true rfl) (Nat.le_of_ble_eq_true rfl) dL_does_315 ?_
    exact ⟨κ9, by rw [dvl_1 e], rfl, by rw [hP9]; exact hC9⟩
  · obtain ⟨κ2, rfl, rfl, e1, hC2⟩ := hx
    rw [List.append_nil]
    show V K sL_does 1 6 (fm (cO en c κ2)) [some (.ref (c 0)), some (.int (zI 11)), some (.int (zI a1)), some (.int (zI a2)), some (.int (zI a3)), some (.int (zI a4)), some (.int (zI a5)), none] [.int (zI ((sp_bestRowWeight P).2.1))] 207
    refine V_goto (tgt := 297) dL_does_207 (by decide) ?_
    refine V_iret hR rfl (Nat.le_of_ble_eq_true rfl) (Nat.le_of_ble_eq_true rfl) dL_does_297 ?_
    exact ⟨κ2, by rw [dvl_0 e1], rfl, hC2⟩
set_option maxRecDepth 100000 in
set_option maxHeartbeats 4000000 in
theorem d_12 (en c : Nat → Nat) (κ : St) (a1 a2 a3 a4 a5 : Int) (P : St) (hp : MI P ∧ CWP P κ) : MCH (EX en) yL_does sL_does [(0, 297, 298, 71), (0, 297, 304, 73), (0, 297, 310, 75)] [.ref (c 0), .int (zI 12), .int (zI a1), .int (zI a2), .int (zI a3), .int (zI a4), .int (zI a5)] (fm (cO en c κ)) (DLR en c (-1000) 0 0 (sp_bestColumnWeight P)) := by
  obtain ⟨hM, hC⟩ := hp
  refine MCH.of (EX.stb en) [some (.ref (c 0)), some (.int (zI 12)), some (.int (zI a1)), some (.int (zI a2)), some (.int (zI a3)), some (.int (zI a4)), some (.int (zI a5)), none] 1 rfl rfl rfl (by simp [Value.category]) (Nat.le_of_ble_eq_true rfl) (fun K hK hT hR => ?_)
  refine V_iload_n dL_does_0 rfl ?_
  refine V_if_ne (tgt := 12) dL_does_1 (by decide) ⟨by decide, by decide⟩ (fun _ => ?_) (fun h => absurd h (by decide))
  refine V_iload_n dL_does_12 rfl ?_
  refine V_iconst dL_does_13 ?_
  refine V_icmp_ne (tgt := 32) dL_does_14 (by decide) ⟨⟨by decide, by decide⟩, ⟨by decide, by decide⟩⟩ (fun _ => ?_) (fun h => absurd h (by decide))
  refine V_iload_n dL_does_32 rfl ?_
  refine V_iconst dL_does_33 ?_
  refine V_icmp_ne (tgt := 45) dL_does_34 (by decide) ⟨⟨by decide, by decide⟩, ⟨by decide, by decide⟩⟩ (fun _ => ?_) (fun h => absurd h (by decide))
  refine V_iload_n dL_does_45 rfl ?_
  refine V_iconst dL_does_46 ?_
  refine V_icmp_ne (tgt := 76) dL_does_47 (by decide) ⟨⟨by decide, by decide⟩, ⟨by decide, by decide⟩⟩ (fun _ => ?_) (fun h => absurd h (by decide))
  refine V_iload_n dL_does_76 rfl ?_
  refine V_iconst dL_does_77 ?_
  refine V_icmp_ne (tgt := 90) dL_does_78 (by decide) ⟨⟨by decide, by decide⟩, ⟨by decide, by decide⟩⟩ (fun _ => ?_) (fun h => absurd h (by decide))
  refine V_iload_n dL_does_90 rfl ?_
  refine V_iconst dL_does_91 ?_
  refine V_icmp_ne (tgt := 112) dL_does_92 (by decide) ⟨⟨by decide, by decide⟩, ⟨by decide, by decide⟩⟩ (fun _ => ?_) (fun h => absurd h (by decide))
  refine V_iload_n dL_does_112 rfl ?_
  refine V_bipush dL_does_113 (by decide) ?_
  refine V_icmp_ne (tgt := 135) dL_does_115 (by decide) ⟨⟨by decide, by decide⟩, ⟨by decide, by decide⟩⟩ (fun _ => ?_) (fun h => absurd h (by decide))
  refine V_iload_n dL_does_135 rfl ?_
  refine V_bipush dL_does_136 (by decide) ?_
  refine V_icmp_ne (tgt := 150) dL_does_138 (by decide) ⟨⟨by decide, by decide⟩, ⟨by decide, by decide⟩⟩ (fun _ => ?_) (fun h => absurd h (by decide))
  refine V_iload_n dL_does_150 rfl ?_
  refine V_bipush dL_does_151 (by decide) ?_
  refine V_icmp_ne (tgt := 167) dL_does_153 (by decide) ⟨⟨by decide, by decide⟩, ⟨by decide, by decide⟩⟩ (fun _ => ?_) (fun h => absurd h (by decide))
  refine V_iload_n dL_does_167 rfl ?_
  refine V_bipush dL_does_168 (by decide) ?_
  refine V_icmp_ne (tgt := 184) dL_does_170 (by decide) ⟨⟨by decide, by decide⟩, ⟨by decide, by decide⟩⟩ (fun _ => ?_) (fun h => absurd h (by decide))
  refine V_iload_n dL_does_184 rfl ?_
  refine V_bipush dL_does_185 (by decide) ?_
  refine V_icmp_ne (tgt := 197) dL_does_187 (by decide) ⟨⟨by decide, by decide⟩, ⟨by decide, by decide⟩⟩ (fun _ => ?_) (fun h => absurd h (by decide))
  refine V_iload_n dL_does_197 rfl ?_
  refine V_bipush dL_does_198 (by decide) ?_
  refine V_icmp_ne (tgt := 210) dL_does_200 (by decide) ⟨⟨by decide, by decide⟩, ⟨by decide, by decide⟩⟩ (fun _ => ?_) (fun h => absurd h (by decide))
  refine V_iload_n dL_does_210 rfl ?_
  refine V_bipush dL_does_211 (by decide) ?_
  refine V_icmp_ne (tgt := 223) dL_does_213 (by decide) ⟨⟨by decide, by decide⟩, ⟨by decide, by decide⟩⟩ (fun h => absurd h (by decide)) (fun _ => ?_)
  refine V_aload_n dL_does_216 rfl ?_
  refine V_callXVAH (As := []) (b := c 0) (q0 := 0) (ci := 9) (fs := cwF c κ) (T := TX10) (N := 9) rfl rfl (wc := fm (cO en c κ)) (wr := []) (List.append_nil _).symm hK hT (MCX.env EX.en (k_bestColumnWeight en c κ P ⟨hM, hC.1, hC.2.1, hC.2.2⟩)) mokX10_bestColumnWeight w822 w823 w824 ⟨Nat.le_of_ble_eq_true rfl, Nat.le_of_ble_eq_true rfl⟩ rfl (Nat.le_of_ble_eq_true rfl) ⟨Nat.le_of_ble_eq_true rfl, Nat.le_of_ble_eq_true rfl⟩ dL_does_217 (fun X w hx => ?_) (fun v w hx => ?_)
  · obtain ⟨κ9, rfl, hC9, hP9, hL⟩ := hx
    simp only [List.mem_cons, List.not_mem_nil, or_false, Prod.mk.injEq] at hL
    obtain ⟨e, rfl⟩ := hL
    refine ⟨310, ⟨tableOf [(0, 297, 298, 71), (0, 297, 304, 73)], ⟨0, 297, 310, 75⟩, tableOf [], rfl, all2 ⟨by decide, _, w510, by simp [NcL]⟩ ⟨by decide, _, w511, by simp [NcL]⟩, by decide, by decide, w512, wn590, rfl⟩, fun q => ?_⟩
    rw [List.append_nil]
    refine V_astore (L' := [some (.ref (c 0)), some (.int (zI 12)), some (.int (zI a1)), some (.int (zI a2)), some (.int (zI a3)), some (.int (zI a4)), some (.int (zI a5)), some (.ref q)]) dL_does_310 (by decide) rfl ?_
    refine V_sipush dL_does_312 (by decide) ?_
    refine V_iret hR rfl (Nat.le_of_ble_eq_true rfl) (Nat.le_of_ble_eq_true rfl) dL_does_315 ?_
    exact ⟨κ9, by rw [dvl_1 e], rfl, by rw [hP9]; exact hC9⟩
  · obtain ⟨κ2, rfl, rfl, e1, hC2⟩ := hx
    rw [List.append_nil]
    show V K sL_does 1 6 (fm (cO en c κ2)) [some (.ref (c 0)), some (.int (zI 12)), some (.int (zI a1)), some (.int (zI a2)), some (.int (zI a3)), some (.int (zI a4)), some (.int (zI a5)), none] [.int (zI ((sp_bestColumnWeight P).2.1))] 220
    refine V_goto (tgt := 297) dL_does_220 (by decide) ?_
    refine V_iret hR rfl (Nat.le_of_ble_eq_true rfl) (Nat.le_of_ble_eq_true rfl) dL_does_297 ?_
    exact ⟨κ2, by rw [dvl_0 e1], rfl, hC2⟩
set_option maxRecDepth 100000 in
set_option maxHeartbeats 4000000 in
theorem d_13 (en c : Nat → Nat) (κ : St) (a1 a2 a3 a4 a5 : Int) (P : St) (hp : MI P ∧ CWP P κ ∧ iR a1 ∧ iR a2 ∧ iR a3) : MCH (EX en) yL_does sL_does [(0, 297, 298, 71), (0, 297, 304, 73), (0, 297, 310, 75)] [.ref (c 0), .int (zI 13), .int (zI a1), .int (zI a2), .int (zI a3), .int (zI a4), .int (zI a5)] (fm (cO en c κ)) (DLR en c (-3000) 0 0 (sp_stepOf P a1 a2 a3)) := by
  obtain ⟨hM, hC, h0, h1, h2⟩ := hp
  refine MCH.of (EX.stb en) [some (.ref (c 0)), some (.int (zI 13)), some (.int (zI a1)), some (.int (zI a2)), some (.int (zI a3)), some (.int (zI a4)), some (.int (zI a5)), none] 1 rfl rfl rfl (by simp [Value.category]) (Nat.le_of_ble_eq_true rfl) (fun K hK hT hR => ?_)
  refine V_iload_n dL_does_0 rfl ?_
  refine V_if_ne (tgt := 12) dL_does_1 (by decide) ⟨by decide, by decide⟩ (fun _ => ?_) (fun h => absurd h (by decide))
  refine V_iload_n dL_does_12 rfl ?_
  refine V_iconst dL_does_13 ?_
  refine V_icmp_ne (tgt := 32) dL_does_14 (by decide) ⟨⟨by decide, by decide⟩, ⟨by decide, by decide⟩⟩ (fun _ => ?_) (fun h => absurd h (by decide))
  refine V_iload_n dL_does_32 rfl ?_
  refine V_iconst dL_does_33 ?_
  refine V_icmp_ne (tgt := 45) dL_does_34 (by decide) ⟨⟨by decide, by decide⟩, ⟨by decide, by decide⟩⟩ (fun _ => ?_) (fun h => absurd h (by decide))
  refine V_iload_n dL_does_45 rfl ?_
  refine V_iconst dL_does_46 ?_
  refine V_icmp_ne (tgt := 76) dL_does_47 (by decide) ⟨⟨by decide, by decide⟩, ⟨by decide, by decide⟩⟩ (fun _ => ?_) (fun h => absurd h (by decide))
  refine V_iload_n dL_does_76 rfl ?_
  refine V_iconst dL_does_77 ?_
  refine V_icmp_ne (tgt := 90) dL_does_78 (by decide) ⟨⟨by decide, by decide⟩, ⟨by decide, by decide⟩⟩ (fun _ => ?_) (fun h => absurd h (by decide))
  refine V_iload_n dL_does_90 rfl ?_
  refine V_iconst dL_does_91 ?_
  refine V_icmp_ne (tgt := 112) dL_does_92 (by decide) ⟨⟨by decide, by decide⟩, ⟨by decide, by decide⟩⟩ (fun _ => ?_) (fun h => absurd h (by decide))
  refine V_iload_n dL_does_112 rfl ?_
  refine V_bipush dL_does_113 (by decide) ?_
  refine V_icmp_ne (tgt := 135) dL_does_115 (by decide) ⟨⟨by decide, by decide⟩, ⟨by decide, by decide⟩⟩ (fun _ => ?_) (fun h => absurd h (by decide))
  refine V_iload_n dL_does_135 rfl ?_
  refine V_bipush dL_does_136 (by decide) ?_
  refine V_icmp_ne (tgt := 150) dL_does_138 (by decide) ⟨⟨by decide, by decide⟩, ⟨by decide, by decide⟩⟩ (fun _ => ?_) (fun h => absurd h (by decide))
  refine V_iload_n dL_does_150 rfl ?_
  refine V_bipush dL_does_151 (by decide) ?_
  refine V_icmp_ne (tgt := 167) dL_does_153 (by decide) ⟨⟨by decide, by decide⟩, ⟨by decide, by decide⟩⟩ (fun _ => ?_) (fun h => absurd h (by decide))
  refine V_iload_n dL_does_167 rfl ?_
  refine V_bipush dL_does_168 (by decide) ?_
  refine V_icmp_ne (tgt := 184) dL_does_170 (by decide) ⟨⟨by decide, by decide⟩, ⟨by decide, by decide⟩⟩ (fun _ => ?_) (fun h => absurd h (by decide))
  refine V_iload_n dL_does_184 rfl ?_
  refine V_bipush dL_does_185 (by decide) ?_
  refine V_icmp_ne (tgt := 197) dL_does_187 (by decide) ⟨⟨by decide, by decide⟩, ⟨by decide, by decide⟩⟩ (fun _ => ?_) (fun h => absurd h (by decide))
  refine V_iload_n dL_does_197 rfl ?_
  refine V_bipush dL_does_198 (by decide) ?_
  refine V_icmp_ne (tgt := 210) dL_does_200 (by decide) ⟨⟨by decide, by decide⟩, ⟨by decide, by decide⟩⟩ (fun _ => ?_) (fun h => absurd h (by decide))
  refine V_iload_n dL_does_210 rfl ?_
  refine V_bipush dL_does_211 (by decide) ?_
  refine V_icmp_ne (tgt := 223) dL_does_213 (by decide) ⟨⟨by decide, by decide⟩, ⟨by decide, by decide⟩⟩ (fun _ => ?_) (fun h => absurd h (by decide))
  refine V_iload_n dL_does_223 rfl ?_
  refine V_bipush dL_does_224 (by decide) ?_
  refine V_icmp_ne (tgt := 240) dL_does_226 (by decide) ⟨⟨by decide, by decide⟩, ⟨by decide, by decide⟩⟩ (fun h => absurd h (by decide)) (fun _ => ?_)
  refine V_aload_n dL_does_229 rfl ?_
  refine V_iload_n dL_does_230 rfl ?_
  refine V_iload_n dL_does_231 rfl ?_
  refine V_iload dL_does_232 rfl ?_
  refine V_callXVAH (As := [.int (zI a1), .int (zI a2), .int (zI a3)]) (b := c 0) (q0 := 0) (ci := 9) (fs := cwF c κ) (T := TX10) (N := 9) rfl rfl (wc := fm (cO en c κ)) (wr := []) (List.append_nil _).symm hK hT (MCX.env EX.en (k_stepOf en c κ a1 a2 a3 P ⟨hM, hC.1, h0, h1, h2, hC.2.1, hC.2.2⟩)) mokX10_stepOf w826 w827 w828 ⟨Nat.le_of_ble_eq_true rfl, Nat.le_of_ble_eq_true rfl⟩ rfl (Nat.le_of_ble_eq_true rfl) ⟨Nat.le_of_ble_eq_true rfl, Nat.le_of_ble_eq_true rfl⟩ dL_does_234 (fun X w hx => ?_) (fun v w hx => ?_)
  · obtain ⟨κ9, rfl, hC9, hP9, hL⟩ := hx
    simp only [List.mem_cons, List.not_mem_nil, or_false, Prod.mk.injEq] at hL
    obtain ⟨e, rfl⟩ := hL
    refine ⟨298, ⟨tableOf [], ⟨0, 297, 298, 71⟩, tableOf [(0, 297, 304, 73), (0, 297, 310, 75)], rfl, fun z hz => absurd hz List.not_mem_nil, by decide, by decide, w510, wn710, rfl⟩, fun q => ?_⟩
    rw [List.append_nil]
    refine V_astore (L' := [some (.ref (c 0)), some (.int (zI 13)), some (.int (zI a1)), some (.int (zI a2)), some (.int (zI a3)), some (.int (zI a4)), some (.int (zI a5)), some (.ref q)]) dL_does_298 (by decide) rfl ?_
    refine V_sipush dL_does_300 (by decide) ?_
    refine V_iret hR rfl (Nat.le_of_ble_eq_true rfl) (Nat.le_of_ble_eq_true rfl) dL_does_303 ?_
    exact ⟨κ9, by rw [dvl_1 e], rfl, by rw [hP9]; exact hC9⟩
  · obtain ⟨κ2, rfl, rfl, e1, hC2⟩ := hx
    rw [List.append_nil]
    show V K sL_does 2 12 (fm (cO en c κ2)) [some (.ref (c 0)), some (.int (zI 13)), some (.int (zI a1)), some (.int (zI a2)), some (.int (zI a3)), some (.int (zI a4)), some (.int (zI a5)), none] [.int (zI ((sp_stepOf P a1 a2 a3).2.1))] 237
    refine V_goto (tgt := 297) dL_does_237 (by decide) ?_
    refine V_iret hR rfl (Nat.le_of_ble_eq_true rfl) (Nat.le_of_ble_eq_true rfl) dL_does_297 ?_
    exact ⟨κ2, by rw [dvl_0 e1], rfl, hC2⟩
set_option maxRecDepth 100000 in
set_option maxHeartbeats 4000000 in
theorem d_14 (en c : Nat → Nat) (κ : St) (a1 a2 a3 a4 a5 : Int) (P : St) (hp : MI P ∧ CWP P κ ∧ iR a1 ∧ iR a2) : MCH (EX en) yL_does sL_does [(0, 297, 298, 71), (0, 297, 304, 73), (0, 297, 310, 75)] [.ref (c 0), .int (zI 14), .int (zI a1), .int (zI a2), .int (zI a3), .int (zI a4), .int (zI a5)] (fm (cO en c κ)) (DLR en c (-3000) 0 0 (sp_isReadInOrder P a1 a2)) := by
  obtain ⟨hM, hC, h0, h1⟩ := hp
  refine MCH.of (EX.stb en) [some (.ref (c 0)), some (.int (zI 14)), some (.int (zI a1)), some (.int (zI a2)), some (.int (zI a3)), some (.int (zI a4)), some (.int (zI a5)), none] 1 rfl rfl rfl (by simp [Value.category]) (Nat.le_of_ble_eq_true rfl) (fun K hK hT hR => ?_)
  refine V_iload_n dL_does_0 rfl ?_
  refine V_if_ne (tgt := 12) dL_does_1 (by decide) ⟨by decide, by decide⟩ (fun _ => ?_) (fun h => absurd h (by decide))
  refine V_iload_n dL_does_12 rfl ?_
  refine V_iconst dL_does_13 ?_
  refine V_icmp_ne (tgt := 32) dL_does_14 (by decide) ⟨⟨by decide, by decide⟩, ⟨by decide, by decide⟩⟩ (fun _ => ?_) (fun h => absurd h (by decide))
  refine V_iload_n dL_does_32 rfl ?_
  refine V_iconst dL_does_33 ?_
  refine V_icmp_ne (tgt := 45) dL_does_34 (by decide) ⟨⟨by decide, by decide⟩, ⟨by decide, by decide⟩⟩ (fun _ => ?_) (fun h => absurd h (by decide))
  refine V_iload_n dL_does_45 rfl ?_
  refine V_iconst dL_does_46 ?_
  refine V_icmp_ne (tgt := 76) dL_does_47 (by decide) ⟨⟨by decide, by decide⟩, ⟨by decide, by decide⟩⟩ (fun _ => ?_) (fun h => absurd h (by decide))
  refine V_iload_n dL_does_76 rfl ?_
  refine V_iconst dL_does_77 ?_
  refine V_icmp_ne (tgt := 90) dL_does_78 (by decide) ⟨⟨by decide, by decide⟩, ⟨by decide, by decide⟩⟩ (fun _ => ?_) (fun h => absurd h (by decide))
  refine V_iload_n dL_does_90 rfl ?_
  refine V_iconst dL_does_91 ?_
  refine V_icmp_ne (tgt := 112) dL_does_92 (by decide) ⟨⟨by decide, by decide⟩, ⟨by decide, by decide⟩⟩ (fun _ => ?_) (fun h => absurd h (by decide))
  refine V_iload_n dL_does_112 rfl ?_
  refine V_bipush dL_does_113 (by decide) ?_
  refine V_icmp_ne (tgt := 135) dL_does_115 (by decide) ⟨⟨by decide, by decide⟩, ⟨by decide, by decide⟩⟩ (fun _ => ?_) (fun h => absurd h (by decide))
  refine V_iload_n dL_does_135 rfl ?_
  refine V_bipush dL_does_136 (by decide) ?_
  refine V_icmp_ne (tgt := 150) dL_does_138 (by decide) ⟨⟨by decide, by decide⟩, ⟨by decide, by decide⟩⟩ (fun _ => ?_) (fun h => absurd h (by decide))
  refine V_iload_n dL_does_150 rfl ?_
  refine V_bipush dL_does_151 (by decide) ?_
  refine V_icmp_ne (tgt := 167) dL_does_153 (by decide) ⟨⟨by decide, by decide⟩, ⟨by decide, by decide⟩⟩ (fun _ => ?_) (fun h => absurd h (by decide))
  refine V_iload_n dL_does_167 rfl ?_
  refine V_bipush dL_does_168 (by decide) ?_
  refine V_icmp_ne (tgt := 184) dL_does_170 (by decide) ⟨⟨by decide, by decide⟩, ⟨by decide, by decide⟩⟩ (fun _ => ?_) (fun h => absurd h (by decide))
  refine V_iload_n dL_does_184 rfl ?_
  refine V_bipush dL_does_185 (by decide) ?_
  refine V_icmp_ne (tgt := 197) dL_does_187 (by decide) ⟨⟨by decide, by decide⟩, ⟨by decide, by decide⟩⟩ (fun _ => ?_) (fun h => absurd h (by decide))
  refine V_iload_n dL_does_197 rfl ?_
  refine V_bipush dL_does_198 (by decide) ?_
  refine V_icmp_ne (tgt := 210) dL_does_200 (by decide) ⟨⟨by decide, by decide⟩, ⟨by decide, by decide⟩⟩ (fun _ => ?_) (fun h => absurd h (by decide))
  refine V_iload_n dL_does_210 rfl ?_
  refine V_bipush dL_does_211 (by decide) ?_
  refine V_icmp_ne (tgt := 223) dL_does_213 (by decide) ⟨⟨by decide, by decide⟩, ⟨by decide, by decide⟩⟩ (fun _ => ?_) (fun h => absurd h (by decide))
  refine V_iload_n dL_does_223 rfl ?_
  refine V_bipush dL_does_224 (by decide) ?_
  refine V_icmp_ne (tgt := 240) dL_does_226 (by decide) ⟨⟨by decide, by decide⟩, ⟨by decide, by decide⟩⟩ (fun _ => ?_) (fun h => absurd h (by decide))
  refine V_iload_n dL_does_240 rfl ?_
  refine V_bipush dL_does_241 (by decide) ?_
  refine V_icmp_ne (tgt := 263) dL_does_243 (by decide) ⟨⟨by decide, by decide⟩, ⟨by decide, by decide⟩⟩ (fun h => absurd h (by decide)) (fun _ => ?_)
  refine V_aload_n dL_does_246 rfl ?_
  refine V_iload_n dL_does_247 rfl ?_
  refine V_iload_n dL_does_248 rfl ?_
  refine V_callXVAH (As := [.int (zI a1), .int (zI a2)]) (b := c 0) (q0 := 0) (ci := 9) (fs := cwF c κ) (T := TX10) (N := 9) rfl rfl (wc := fm (cO en c κ)) (wr := []) (List.append_nil _).symm hK hT (MCX.env EX.en (k_isReadInOrder en c κ a1 a2 P ⟨hM, hC.1, h0, h1, hC.2.1, hC.2.2⟩)) mokX10_isReadInOrder w841 w842 w843 ⟨Nat.le_of_ble_eq_true rfl, Nat.le_of_ble_eq_true rfl⟩ rfl (Nat.le_of_ble_eq_true rfl) ⟨Nat.le_of_ble_eq_true rfl, Nat.le_of_ble_eq_true rfl⟩ dL_does_249 (fun X w hx => ?_) (fun v w hx => ?_)
  · obtain ⟨κ9, rfl, hC9, hP9, hL⟩ := hx
    simp only [List.mem_cons, List.not_mem_nil, or_false, Prod.mk.injEq] at hL
    obtain ⟨e, rfl⟩ := hL
    refine ⟨298, ⟨tableOf [], ⟨0, 297, 298, 71⟩, tableOf [(0, 297, 304, 73), (0, 297, 310, 75)], rfl, fun z hz => absurd hz List.not_mem_nil, by decide, by decide, w510, wn710, rfl⟩, fun q => ?_⟩
    rw [List.append_nil]
    refine V_astore (L' := [some (.ref (c 0)), some (.int (zI 14)), some (.int (zI a1)), some (.int (zI a2)), some (.int (zI a3)), some (.int (zI a4)), some (.int (zI a5)), some (.ref q)]) dL_does_298 (by decide) rfl ?_
    refine V_sipush dL_does_300 (by decide) ?_
    refine V_iret hR rfl (Nat.le_of_ble_eq_true rfl) (Nat.le_of_ble_eq_true rfl) dL_does_303 ?_
    exact ⟨κ9, by rw [dvl_1 e], rfl, by rw [hP9]; exact hC9⟩
  · obtain ⟨κ2, rfl, rfl, e1, hC2⟩ := hx
    rw [List.append_nil]
    show V K sL_does 2 12 (fm (cO en c κ2)) [some (.ref (c 0)), some (.int (zI 14)), some (.int (zI a1)), some (.int (zI a2)), some (.int (zI a3)), some (.int (zI a4)), some (.int (zI a5)), none] [.int (zI ((sp_isReadInOrder P a1 a2).2.1))] 252
    have hbl : ((sp_isReadInOrder P a1 a2).2.1) = 0 ∨ ((sp_isReadInOrder P a1 a2).2.1) = 1 := gd_b (fun _ => bzv _)
    refine V_if_eq (tgt := 259) dL_does_252 (by decide) ⟨by omega, by omega⟩ (fun hb0 => ?_) (fun hb0 => ?_)
    · refine V_iconst dL_does_259 ?_
      refine V_goto (tgt := 297) dL_does_260 (by decide) ?_
      refine V_iret hR rfl (Nat.le_of_ble_eq_true rfl) (Nat.le_of_ble_eq_true rfl) dL_does_297 ?_
      exact ⟨κ2, by rw [dvl_0 e1, hb0], rfl, hC2⟩
    · refine V_iconst dL_does_255 ?_
      refine V_goto (tgt := 297) dL_does_256 (by decide) ?_
      refine V_iret hR rfl (Nat.le_of_ble_eq_true rfl) (Nat.le_of_ble_eq_true rfl) dL_does_297 ?_
      exact ⟨κ2, by rw [dvl_0 e1, hbl.resolve_left hb0], rfl, hC2⟩
set_option maxRecDepth 100000 in
set_option maxHeartbeats 4000000 in
theorem d_15 (en c : Nat → Nat) (κ : St) (a1 a2 a3 a4 a5 : Int) (P : St) (hp : MI P ∧ CWP P κ ∧ iR a1) : MCH (EX en) yL_does sL_does [(0, 297, 298, 71), (0, 297, 304, 73), (0, 297, 310, 75)] [.ref (c 0), .int (zI 15), .int (zI a1), .int (zI a2), .int (zI a3), .int (zI a4), .int (zI a5)] (fm (cO en c κ)) (DLR en c (-3000) 0 0 (sp_liveAt P a1)) := by
  obtain ⟨hM, hC, h0⟩ := hp
  refine MCH.of (EX.stb en) [some (.ref (c 0)), some (.int (zI 15)), some (.int (zI a1)), some (.int (zI a2)), some (.int (zI a3)), some (.int (zI a4)), some (.int (zI a5)), none] 1 rfl rfl rfl (by simp [Value.category]) (Nat.le_of_ble_eq_true rfl) (fun K hK hT hR => ?_)
  refine V_iload_n dL_does_0 rfl ?_
  refine V_if_ne (tgt := 12) dL_does_1 (by decide) ⟨by decide, by decide⟩ (fun _ => ?_) (fun h => absurd h (by decide))
  refine V_iload_n dL_does_12 rfl ?_
  refine V_iconst dL_does_13 ?_
  refine V_icmp_ne (tgt := 32) dL_does_14 (by decide) ⟨⟨by decide, by decide⟩, ⟨by decide, by decide⟩⟩ (fun _ => ?_) (fun h => absurd h (by decide))
  refine V_iload_n dL_does_32 rfl ?_
  refine V_iconst dL_does_33 ?_
  refine V_icmp_ne (tgt := 45) dL_does_34 (by decide) ⟨⟨by decide, by decide⟩, ⟨by decide, by decide⟩⟩ (fun _ => ?_) (fun h => absurd h (by decide))
  refine V_iload_n dL_does_45 rfl ?_
  refine V_iconst dL_does_46 ?_
  refine V_icmp_ne (tgt := 76) dL_does_47 (by decide) ⟨⟨by decide, by decide⟩, ⟨by decide, by decide⟩⟩ (fun _ => ?_) (fun h => absurd h (by decide))
  refine V_iload_n dL_does_76 rfl ?_
  refine V_iconst dL_does_77 ?_
  refine V_icmp_ne (tgt := 90) dL_does_78 (by decide) ⟨⟨by decide, by decide⟩, ⟨by decide, by decide⟩⟩ (fun _ => ?_) (fun h => absurd h (by decide))
  refine V_iload_n dL_does_90 rfl ?_
  refine V_iconst dL_does_91 ?_
  refine V_icmp_ne (tgt := 112) dL_does_92 (by decide) ⟨⟨by decide, by decide⟩, ⟨by decide, by decide⟩⟩ (fun _ => ?_) (fun h => absurd h (by decide))
  refine V_iload_n dL_does_112 rfl ?_
  refine V_bipush dL_does_113 (by decide) ?_
  refine V_icmp_ne (tgt := 135) dL_does_115 (by decide) ⟨⟨by decide, by decide⟩, ⟨by decide, by decide⟩⟩ (fun _ => ?_) (fun h => absurd h (by decide))
  refine V_iload_n dL_does_135 rfl ?_
  refine V_bipush dL_does_136 (by decide) ?_
  refine V_icmp_ne (tgt := 150) dL_does_138 (by decide) ⟨⟨by decide, by decide⟩, ⟨by decide, by decide⟩⟩ (fun _ => ?_) (fun h => absurd h (by decide))
  refine V_iload_n dL_does_150 rfl ?_
  refine V_bipush dL_does_151 (by decide) ?_
  refine V_icmp_ne (tgt := 167) dL_does_153 (by decide) ⟨⟨by decide, by decide⟩, ⟨by decide, by decide⟩⟩ (fun _ => ?_) (fun h => absurd h (by decide))
  refine V_iload_n dL_does_167 rfl ?_
  refine V_bipush dL_does_168 (by decide) ?_
  refine V_icmp_ne (tgt := 184) dL_does_170 (by decide) ⟨⟨by decide, by decide⟩, ⟨by decide, by decide⟩⟩ (fun _ => ?_) (fun h => absurd h (by decide))
  refine V_iload_n dL_does_184 rfl ?_
  refine V_bipush dL_does_185 (by decide) ?_
  refine V_icmp_ne (tgt := 197) dL_does_187 (by decide) ⟨⟨by decide, by decide⟩, ⟨by decide, by decide⟩⟩ (fun _ => ?_) (fun h => absurd h (by decide))
  refine V_iload_n dL_does_197 rfl ?_
  refine V_bipush dL_does_198 (by decide) ?_
  refine V_icmp_ne (tgt := 210) dL_does_200 (by decide) ⟨⟨by decide, by decide⟩, ⟨by decide, by decide⟩⟩ (fun _ => ?_) (fun h => absurd h (by decide))
  refine V_iload_n dL_does_210 rfl ?_
  refine V_bipush dL_does_211 (by decide) ?_
  refine V_icmp_ne (tgt := 223) dL_does_213 (by decide) ⟨⟨by decide, by decide⟩, ⟨by decide, by decide⟩⟩ (fun _ => ?_) (fun h => absurd h (by decide))
  refine V_iload_n dL_does_223 rfl ?_
  refine V_bipush dL_does_224 (by decide) ?_
  refine V_icmp_ne (tgt := 240) dL_does_226 (by decide) ⟨⟨by decide, by decide⟩, ⟨by decide, by decide⟩⟩ (fun _ => ?_) (fun h => absurd h (by decide))
  refine V_iload_n dL_does_240 rfl ?_
  refine V_bipush dL_does_241 (by decide) ?_
  refine V_icmp_ne (tgt := 263) dL_does_243 (by decide) ⟨⟨by decide, by decide⟩, ⟨by decide, by decide⟩⟩ (fun _ => ?_) (fun h => absurd h (by decide))
  refine V_iload_n dL_does_263 rfl ?_
  refine V_bipush dL_does_264 (by decide) ?_
  refine V_icmp_ne (tgt := 277) dL_does_266 (by decide) ⟨⟨by decide, by decide⟩, ⟨by decide, by decide⟩⟩ (fun h => absurd h (by decide)) (fun _ => ?_)
  refine V_aload_n dL_does_269 rfl ?_
  refine V_iload_n dL_does_270 rfl ?_
  refine V_callXVAH (As := [.int (zI a1)]) (b := c 0) (q0 := 0) (ci := 9) (fs := cwF c κ) (T := TX10) (N := 9) rfl rfl (wc := fm (cO en c κ)) (wr := []) (List.append_nil _).symm hK hT (MCX.env EX.en (k_liveAt en c κ a1 P ⟨hM, hC.1, h0, hC.2.1, hC.2.2⟩)) mokX10_liveAt w847 w848 w849 ⟨Nat.le_of_ble_eq_true rfl, Nat.le_of_ble_eq_true rfl⟩ rfl (Nat.le_of_ble_eq_true rfl) ⟨Nat.le_of_ble_eq_true rfl, Nat.le_of_ble_eq_true rfl⟩ dL_does_271 (fun X w hx => ?_) (fun v w hx => ?_)
  · obtain ⟨κ9, rfl, hC9, hP9, hL⟩ := hx
    simp only [List.mem_cons, List.not_mem_nil, or_false, Prod.mk.injEq] at hL
    obtain ⟨e, rfl⟩ := hL
    refine ⟨298, ⟨tableOf [], ⟨0, 297, 298, 71⟩, tableOf [(0, 297, 304, 73), (0, 297, 310, 75)], rfl, fun z hz => absurd hz List.not_mem_nil, by decide, by decide, w510, wn710, rfl⟩, fun q => ?_⟩
    rw [List.append_nil]
    refine V_astore (L' := [some (.ref (c 0)), some (.int (zI 15)), some (.int (zI a1)), some (.int (zI a2)), some (.int (zI a3)), some (.int (zI a4)), some (.int (zI a5)), some (.ref q)]) dL_does_298 (by decide) rfl ?_
    refine V_sipush dL_does_300 (by decide) ?_
    refine V_iret hR rfl (Nat.le_of_ble_eq_true rfl) (Nat.le_of_ble_eq_true rfl) dL_does_303 ?_
    exact ⟨κ9, by rw [dvl_1 e], rfl, by rw [hP9]; exact hC9⟩
  · obtain ⟨κ2, rfl, rfl, e1, hC2⟩ := hx
    rw [List.append_nil]
    show V K sL_does 1 6 (fm (cO en c κ2)) [some (.ref (c 0)), some (.int (zI 15)), some (.int (zI a1)), some (.int (zI a2)), some (.int (zI a3)), some (.int (zI a4)), some (.int (zI a5)), none] [.int (zI ((sp_liveAt P a1).2.1))] 274
    refine V_goto (tgt := 297) dL_does_274 (by decide) ?_
    refine V_iret hR rfl (Nat.le_of_ble_eq_true rfl) (Nat.le_of_ble_eq_true rfl) dL_does_297 ?_
    exact ⟨κ2, by rw [dvl_0 e1], rfl, hC2⟩
set_option maxRecDepth 100000 in
set_option maxHeartbeats 4000000 in
theorem d_16 (en c : Nat → Nat) (κ : St) (a1 a2 a3 a4 a5 : Int) (P : St) (hp : MI P ∧ CWP P κ ∧ iR a1 ∧ iR a2) : MCH (EX en) yL_does sL_does [(0, 297, 298, 71), (0, 297, 304, 73), (0, 297, 310, 75)] [.ref (c 0), .int (zI 16), .int (zI a1), .int (zI a2), .int (zI a3), .int (zI a4), .int (zI a5)] (fm (cO en c κ)) (DLR en c (-3000) 0 0 (sp_leastJointRest P a1 a2)) := by
  obtain ⟨hM, hC, h0, h1⟩ := hp
  refine MCH.of (EX.stb en) [some (.ref (c 0)), some (.int (zI 16)), some (.int (zI a1)), some (.int (zI a2)), some (.int (zI a3)), some (.int (zI a4)), some (.int (zI a5)), none] 1 rfl rfl rfl (by simp [Value.category]) (Nat.le_of_ble_eq_true rfl) (fun K hK hT hR => ?_)
  refine V_iload_n dL_does_0 rfl ?_
  refine V_if_ne (tgt := 12) dL_does_1 (by decide) ⟨by decide, by decide⟩ (fun _ => ?_) (fun h => absurd h (by decide))
  refine V_iload_n dL_does_12 rfl ?_
  refine V_iconst dL_does_13 ?_
  refine V_icmp_ne (tgt := 32) dL_does_14 (by decide) ⟨⟨by decide, by decide⟩, ⟨by decide, by decide⟩⟩ (fun _ => ?_) (fun h => absurd h (by decide))
  refine V_iload_n dL_does_32 rfl ?_
  refine V_iconst dL_does_33 ?_
  refine V_icmp_ne (tgt := 45) dL_does_34 (by decide) ⟨⟨by decide, by decide⟩, ⟨by decide, by decide⟩⟩ (fun _ => ?_) (fun h => absurd h (by decide))
  refine V_iload_n dL_does_45 rfl ?_
  refine V_iconst dL_does_46 ?_
  refine V_icmp_ne (tgt := 76) dL_does_47 (by decide) ⟨⟨by decide, by decide⟩, ⟨by decide, by decide⟩⟩ (fun _ => ?_) (fun h => absurd h (by decide))
  refine V_iload_n dL_does_76 rfl ?_
  refine V_iconst dL_does_77 ?_
  refine V_icmp_ne (tgt := 90) dL_does_78 (by decide) ⟨⟨by decide, by decide⟩, ⟨by decide, by decide⟩⟩ (fun _ => ?_) (fun h => absurd h (by decide))
  refine V_iload_n dL_does_90 rfl ?_
  refine V_iconst dL_does_91 ?_
  refine V_icmp_ne (tgt := 112) dL_does_92 (by decide) ⟨⟨by decide, by decide⟩, ⟨by decide, by decide⟩⟩ (fun _ => ?_) (fun h => absurd h (by decide))
  refine V_iload_n dL_does_112 rfl ?_
  refine V_bipush dL_does_113 (by decide) ?_
  refine V_icmp_ne (tgt := 135) dL_does_115 (by decide) ⟨⟨by decide, by decide⟩, ⟨by decide, by decide⟩⟩ (fun _ => ?_) (fun h => absurd h (by decide))
  refine V_iload_n dL_does_135 rfl ?_
  refine V_bipush dL_does_136 (by decide) ?_
  refine V_icmp_ne (tgt := 150) dL_does_138 (by decide) ⟨⟨by decide, by decide⟩, ⟨by decide, by decide⟩⟩ (fun _ => ?_) (fun h => absurd h (by decide))
  refine V_iload_n dL_does_150 rfl ?_
  refine V_bipush dL_does_151 (by decide) ?_
  refine V_icmp_ne (tgt := 167) dL_does_153 (by decide) ⟨⟨by decide, by decide⟩, ⟨by decide, by decide⟩⟩ (fun _ => ?_) (fun h => absurd h (by decide))
  refine V_iload_n dL_does_167 rfl ?_
  refine V_bipush dL_does_168 (by decide) ?_
  refine V_icmp_ne (tgt := 184) dL_does_170 (by decide) ⟨⟨by decide, by decide⟩, ⟨by decide, by decide⟩⟩ (fun _ => ?_) (fun h => absurd h (by decide))
  refine V_iload_n dL_does_184 rfl ?_
  refine V_bipush dL_does_185 (by decide) ?_
  refine V_icmp_ne (tgt := 197) dL_does_187 (by decide) ⟨⟨by decide, by decide⟩, ⟨by decide, by decide⟩⟩ (fun _ => ?_) (fun h => absurd h (by decide))
  refine V_iload_n dL_does_197 rfl ?_
  refine V_bipush dL_does_198 (by decide) ?_
  refine V_icmp_ne (tgt := 210) dL_does_200 (by decide) ⟨⟨by decide, by decide⟩, ⟨by decide, by decide⟩⟩ (fun _ => ?_) (fun h => absurd h (by decide))
  refine V_iload_n dL_does_210 rfl ?_
  refine V_bipush dL_does_211 (by decide) ?_
  refine V_icmp_ne (tgt := 223) dL_does_213 (by decide) ⟨⟨by decide, by decide⟩, ⟨by decide, by decide⟩⟩ (fun _ => ?_) (fun h => absurd h (by decide))
  refine V_iload_n dL_does_223 rfl ?_
  refine V_bipush dL_does_224 (by decide) ?_
  refine V_icmp_ne (tgt := 240) dL_does_226 (by decide) ⟨⟨by decide, by decide⟩, ⟨by decide, by decide⟩⟩ (fun _ => ?_) (fun h => absurd h (by decide))
  refine V_iload_n dL_does_240 rfl ?_
  refine V_bipush dL_does_241 (by decide) ?_
  refine V_icmp_ne (tgt := 263) dL_does_243 (by decide) ⟨⟨by decide, by decide⟩, ⟨by decide, by decide⟩⟩ (fun _ => ?_) (fun h => absurd h (by decide))
  refine V_iload_n dL_does_263 rfl ?_
  refine V_bipush dL_does_264 (by decide) ?_
  refine V_icmp_ne (tgt := 277) dL_does_266 (by decide) ⟨⟨by decide, by decide⟩, ⟨by decide, by decide⟩⟩ (fun _ => ?_) (fun h => absurd h (by decide))
  refine V_iload_n dL_does_277 rfl ?_
  refine V_bipush dL_does_278 (by decide) ?_
  refine V_icmp_ne (tgt := 292) dL_does_280 (by decide) ⟨⟨by decide, by decide⟩, ⟨by decide, by decide⟩⟩ (fun h => absurd h (by decide)) (fun _ => ?_)
  refine V_aload_n dL_does_283 rfl ?_
  refine V_iload_n dL_does_284 rfl ?_
  refine V_iload_n dL_does_285 rfl ?_
  refine V_callXVAH (As := [.int (zI a1), .int (zI a2)]) (b := c 0) (q0 := 0) (ci := 9) (fs := cwF c κ) (T := TX10) (N := 9) rfl rfl (wc := fm (cO en c κ)) (wr := []) (List.append_nil _).symm hK hT (MCX.env EX.en (k_leastJointRest en c κ a1 a2 P ⟨hM, hC.1, h0, h1, hC.2.1, hC.2.2⟩)) mokX10_leastJointRest w860 w861 w862 ⟨Nat.le_of_ble_eq_true rfl, Nat.le_of_ble_eq_true rfl⟩ rfl (Nat.le_of_ble_eq_true rfl) ⟨Nat.le_of_ble_eq_true rfl, Nat.le_of_ble_eq_true rfl⟩ dL_does_286 (fun X w hx => ?_) (fun v w hx => ?_)
  · obtain ⟨κ9, rfl, hC9, hP9, hL⟩ := hx
    simp only [List.mem_cons, List.not_mem_nil, or_false, Prod.mk.injEq] at hL
    obtain ⟨e, rfl⟩ := hL
    refine ⟨298, ⟨tableOf [], ⟨0, 297, 298, 71⟩, tableOf [(0, 297, 304, 73), (0, 297, 310, 75)], rfl, fun z hz => absurd hz List.not_mem_nil, by decide, by decide, w510, wn710, rfl⟩, fun q => ?_⟩
    rw [List.append_nil]
    refine V_astore (L' := [some (.ref (c 0)), some (.int (zI 16)), some (.int (zI a1)), some (.int (zI a2)), some (.int (zI a3)), some (.int (zI a4)), some (.int (zI a5)), some (.ref q)]) dL_does_298 (by decide) rfl ?_
    refine V_sipush dL_does_300 (by decide) ?_
    refine V_iret hR rfl (Nat.le_of_ble_eq_true rfl) (Nat.le_of_ble_eq_true rfl) dL_does_303 ?_
    exact ⟨κ9, by rw [dvl_1 e], rfl, by rw [hP9]; exact hC9⟩
  · obtain ⟨κ2, rfl, rfl, e1, hC2⟩ := hx
    rw [List.append_nil]
    show V K sL_does 2 12 (fm (cO en c κ2)) [some (.ref (c 0)), some (.int (zI 16)), some (.int (zI a1)), some (.int (zI a2)), some (.int (zI a3)), some (.int (zI a4)), some (.int (zI a5)), none] [.int (zI ((sp_leastJointRest P a1 a2).2.1))] 289
    refine V_goto (tgt := 297) dL_does_289 (by decide) ?_
    refine V_iret hR rfl (Nat.le_of_ble_eq_true rfl) (Nat.le_of_ble_eq_true rfl) dL_does_297 ?_
    exact ⟨κ2, by rw [dvl_0 e1], rfl, hC2⟩
set_option maxRecDepth 100000 in
set_option maxHeartbeats 4000000 in
theorem d_17 (en c : Nat → Nat) (κ : St) (a1 a2 a3 a4 a5 : Int) (P : St) (hp : MI P ∧ CWP P κ ∧ iR a1) : MCH (EX en) yL_does sL_does [(0, 297, 298, 71), (0, 297, 304, 73), (0, 297, 310, 75)] [.ref (c 0), .int (zI 17), .int (zI a1), .int (zI a2), .int (zI a3), .int (zI a4), .int (zI a5)] (fm (cO en c κ)) (DLR en c (-3000) 0 0 (sp_keepWhole P a1)) := by
  obtain ⟨hM, hC, h0⟩ := hp
  refine MCH.of (EX.stb en) [some (.ref (c 0)), some (.int (zI 17)), some (.int (zI a1)), some (.int (zI a2)), some (.int (zI a3)), some (.int (zI a4)), some (.int (zI a5)), none] 1 rfl rfl rfl (by simp [Value.category]) (Nat.le_of_ble_eq_true rfl) (fun K hK hT hR => ?_)
  refine V_iload_n dL_does_0 rfl ?_
  refine V_if_ne (tgt := 12) dL_does_1 (by decide) ⟨by decide, by decide⟩ (fun _ => ?_) (fun h => absurd h (by decide))
  refine V_iload_n dL_does_12 rfl ?_
  refine V_iconst dL_does_13 ?_
  refine V_icmp_ne (tgt := 32) dL_does_14 (by decide) ⟨⟨by decide, by decide⟩, ⟨by decide, by decide⟩⟩ (fun _ => ?_) (fun h => absurd h (by decide))
  refine V_iload_n dL_does_32 rfl ?_
  refine V_iconst dL_does_33 ?_
  refine V_icmp_ne (tgt := 45) dL_does_34 (by decide) ⟨⟨by decide, by decide⟩, ⟨by decide, by decide⟩⟩ (fun _ => ?_) (fun h => absurd h (by decide))
  refine V_iload_n dL_does_45 rfl ?_
  refine V_iconst dL_does_46 ?_
  refine V_icmp_ne (tgt := 76) dL_does_47 (by decide) ⟨⟨by decide, by decide⟩, ⟨by decide, by decide⟩⟩ (fun _ => ?_) (fun h => absurd h (by decide))
  refine V_iload_n dL_does_76 rfl ?_
  refine V_iconst dL_does_77 ?_
  refine V_icmp_ne (tgt := 90) dL_does_78 (by decide) ⟨⟨by decide, by decide⟩, ⟨by decide, by decide⟩⟩ (fun _ => ?_) (fun h => absurd h (by decide))
  refine V_iload_n dL_does_90 rfl ?_
  refine V_iconst dL_does_91 ?_
  refine V_icmp_ne (tgt := 112) dL_does_92 (by decide) ⟨⟨by decide, by decide⟩, ⟨by decide, by decide⟩⟩ (fun _ => ?_) (fun h => absurd h (by decide))
  refine V_iload_n dL_does_112 rfl ?_
  refine V_bipush dL_does_113 (by decide) ?_
  refine V_icmp_ne (tgt := 135) dL_does_115 (by decide) ⟨⟨by decide, by decide⟩, ⟨by decide, by decide⟩⟩ (fun _ => ?_) (fun h => absurd h (by decide))
  refine V_iload_n dL_does_135 rfl ?_
  refine V_bipush dL_does_136 (by decide) ?_
  refine V_icmp_ne (tgt := 150) dL_does_138 (by decide) ⟨⟨by decide, by decide⟩, ⟨by decide, by decide⟩⟩ (fun _ => ?_) (fun h => absurd h (by decide))
  refine V_iload_n dL_does_150 rfl ?_
  refine V_bipush dL_does_151 (by decide) ?_
  refine V_icmp_ne (tgt := 167) dL_does_153 (by decide) ⟨⟨by decide, by decide⟩, ⟨by decide, by decide⟩⟩ (fun _ => ?_) (fun h => absurd h (by decide))
  refine V_iload_n dL_does_167 rfl ?_
  refine V_bipush dL_does_168 (by decide) ?_
  refine V_icmp_ne (tgt := 184) dL_does_170 (by decide) ⟨⟨by decide, by decide⟩, ⟨by decide, by decide⟩⟩ (fun _ => ?_) (fun h => absurd h (by decide))
  refine V_iload_n dL_does_184 rfl ?_
  refine V_bipush dL_does_185 (by decide) ?_
  refine V_icmp_ne (tgt := 197) dL_does_187 (by decide) ⟨⟨by decide, by decide⟩, ⟨by decide, by decide⟩⟩ (fun _ => ?_) (fun h => absurd h (by decide))
  refine V_iload_n dL_does_197 rfl ?_
  refine V_bipush dL_does_198 (by decide) ?_
  refine V_icmp_ne (tgt := 210) dL_does_200 (by decide) ⟨⟨by decide, by decide⟩, ⟨by decide, by decide⟩⟩ (fun _ => ?_) (fun h => absurd h (by decide))
  refine V_iload_n dL_does_210 rfl ?_
  refine V_bipush dL_does_211 (by decide) ?_
  refine V_icmp_ne (tgt := 223) dL_does_213 (by decide) ⟨⟨by decide, by decide⟩, ⟨by decide, by decide⟩⟩ (fun _ => ?_) (fun h => absurd h (by decide))
  refine V_iload_n dL_does_223 rfl ?_
  refine V_bipush dL_does_224 (by decide) ?_
  refine V_icmp_ne (tgt := 240) dL_does_226 (by decide) ⟨⟨by decide, by decide⟩, ⟨by decide, by decide⟩⟩ (fun _ => ?_) (fun h => absurd h (by decide))
  refine V_iload_n dL_does_240 rfl ?_
  refine V_bipush dL_does_241 (by decide) ?_
  refine V_icmp_ne (tgt := 263) dL_does_243 (by decide) ⟨⟨by decide, by decide⟩, ⟨by decide, by decide⟩⟩ (fun _ => ?_) (fun h => absurd h (by decide))
  refine V_iload_n dL_does_263 rfl ?_
  refine V_bipush dL_does_264 (by decide) ?_
  refine V_icmp_ne (tgt := 277) dL_does_266 (by decide) ⟨⟨by decide, by decide⟩, ⟨by decide, by decide⟩⟩ (fun _ => ?_) (fun h => absurd h (by decide))
  refine V_iload_n dL_does_277 rfl ?_
  refine V_bipush dL_does_278 (by decide) ?_
  refine V_icmp_ne (tgt := 292) dL_does_280 (by decide) ⟨⟨by decide, by decide⟩, ⟨by decide, by decide⟩⟩ (fun _ => ?_) (fun h => absurd h (by decide))
  refine V_aload_n dL_does_292 rfl ?_
  refine V_iload_n dL_does_293 rfl ?_
  refine V_callXVAH (As := [.int (zI a1)]) (b := c 0) (q0 := 0) (ci := 9) (fs := cwF c κ) (T := TX10) (N := 9) rfl rfl (wc := fm (cO en c κ)) (wr := []) (List.append_nil _).symm hK hT (MCX.env EX.en (k_keepWhole en c κ a1 P ⟨hM, hC.1, h0, hC.2.1, hC.2.2⟩)) mokX10_keepWhole w864 w865 w866 ⟨Nat.le_of_ble_eq_true rfl, Nat.le_of_ble_eq_true rfl⟩ rfl (Nat.le_of_ble_eq_true rfl) ⟨Nat.le_of_ble_eq_true rfl, Nat.le_of_ble_eq_true rfl⟩ dL_does_294 (fun X w hx => ?_) (fun v w hx => ?_)
  · obtain ⟨κ9, rfl, hC9, hP9, hL⟩ := hx
    simp only [List.mem_cons, List.not_mem_nil, or_false, Prod.mk.injEq] at hL
    obtain ⟨e, rfl⟩ := hL
    refine ⟨298, ⟨tableOf [], ⟨0, 297, 298, 71⟩, tableOf [(0, 297, 304, 73), (0, 297, 310, 75)], rfl, fun z hz => absurd hz List.not_mem_nil, by decide, by decide, w510, wn710, rfl⟩, fun q => ?_⟩
    rw [List.append_nil]
    refine V_astore (L' := [some (.ref (c 0)), some (.int (zI 17)), some (.int (zI a1)), some (.int (zI a2)), some (.int (zI a3)), some (.int (zI a4)), some (.int (zI a5)), some (.ref q)]) dL_does_298 (by decide) rfl ?_
    refine V_sipush dL_does_300 (by decide) ?_
    refine V_iret hR rfl (Nat.le_of_ble_eq_true rfl) (Nat.le_of_ble_eq_true rfl) dL_does_303 ?_
    exact ⟨κ9, by rw [dvl_1 e], rfl, by rw [hP9]; exact hC9⟩
  · obtain ⟨κ2, rfl, rfl, e1, hC2⟩ := hx
    rw [List.append_nil]
    show V K sL_does 1 6 (fm (cO en c κ2)) [some (.ref (c 0)), some (.int (zI 17)), some (.int (zI a1)), some (.int (zI a2)), some (.int (zI a3)), some (.int (zI a4)), some (.int (zI a5)), none] [.int (zI ((sp_keepWhole P a1).2.1))] 297
    refine V_iret hR rfl (Nat.le_of_ble_eq_true rfl) (Nat.le_of_ble_eq_true rfl) dL_does_297 ?_
    exact ⟨κ2, by rw [dvl_0 e1], rfl, hC2⟩
theorem r_steps (en c : Nat → Nat) (κ : St) (P : St) (hp : MI P ∧ CWP P κ) : MC (EN en) yX10_steps sX10_steps [.ref (c 0)] (fm (cO en c κ)) (fun v w => ∃ κ2 : St, v = some (.int (zI (al P))) ∧ w = fm (cO en c κ2) ∧ CWP P κ2) := by
  obtain ⟨hM, hC⟩ := hp
  have e : sp_steps P = (0, al P, P) := rfl
  refine MC.post (k_steps en c κ P ⟨hM, hC.1, hC.2.1, hC.2.2⟩) (fun v w h => ?_)
  obtain ⟨κ2, h1, h2, h3, h4⟩ := h
  rw [e] at h1 h4
  exact ⟨κ2, h1, h2, h4⟩
theorem r_isAllowed (en c : Nat → Nat) (κ : St) (P : St) (hp : MI P ∧ CWP P κ) : MC (EN en) yX10_isAllowed sX10_isAllowed [.ref (c 0)] (fm (cO en c κ)) (fun v w => ∃ κ2 : St, v = some (.int (zI (bz (dcd (alw P (P 0 11) (P 0 12)))))) ∧ w = fm (cO en c κ2) ∧ CWP P κ2) := by
  obtain ⟨hM, hC⟩ := hp
  have e : sp_isAllowed P = (0, bz (dcd (alw P (P 0 11) (P 0 12))), P) := rfl
  refine MC.post (k_isAllowed en c κ P ⟨hM, hC.1, hC.2.1, hC.2.2⟩) (fun v w h => ?_)
  obtain ⟨κ2, h1, h2, h3, h4⟩ := h
  rw [e] at h1 h4
  exact ⟨κ2, h1, h2, h4⟩
theorem r_liveAt (en c : Nat → Nat) (κ : St) (x : Int) (P : St) (hp : MI P ∧ CWP P κ ∧ (0 ≤ x ∧ x < al P)) : MC (EN en) yX10_liveAt sX10_liveAt [.ref (c 0), .int (zI x)] (fm (cO en c κ)) (fun v w => ∃ κ2 : St, v = some (.int (zI (lvN P (P 0 11) (P 0 12) (selS P (-1)) x))) ∧ w = fm (cO en c κ2) ∧ CWP P κ2) := by
  obtain ⟨hM, hC, h⟩ := hp
  have mR := hM.1
  have mC := hM.2.1
  have mN := hM.2.2.1
  have ma := hM.als
  have e : sp_liveAt P x = (0, lvN P (P 0 11) (P 0 12) (selS P (-1)) x, P) := gd_t h
  refine MC.post (MCX.mc (k_liveAt en c κ x P ⟨hM, hC.1, ⟨by omega, by omega⟩, hC.2.1, hC.2.2⟩) (noX (by rw [e]) (by intro p hp; simp only [List.mem_cons, List.not_mem_nil, or_false] at hp; rw [hp]; decide))) (fun v w h => ?_)
  obtain ⟨κ2, h1, h2, h3, h4⟩ := h
  rw [e] at h1 h4
  exact ⟨κ2, h1, h2, h4⟩
theorem r_mostLive (en c : Nat → Nat) (κ : St) (P : St) (hp : MI P ∧ CWP P κ) : MC (EN en) yX10_mostLive sX10_mostLive [.ref (c 0)] (fm (cO en c κ)) (fun v w => ∃ κ2 : St, v = some (.int (zI (mxv (lvN P (P 0 11) (P 0 12) (selS P (-1))) (al P)))) ∧ w = fm (cO en c κ2) ∧ CWP P κ2) := by
  obtain ⟨hM, hC⟩ := hp
  have e : sp_mostLive P = (0, mxv (lvN P (P 0 11) (P 0 12) (selS P (-1))) (al P), P) := rfl
  refine MC.post (k_mostLive en c κ P ⟨hM, hC.1, hC.2.1, hC.2.2⟩) (fun v w h => ?_)
  obtain ⟨κ2, h1, h2, h3, h4⟩ := h
  rw [e] at h1 h4
  exact ⟨κ2, h1, h2, h4⟩
theorem r_mostLiveOf (en c : Nat → Nat) (κ : St) (s : Int) (P : St) (hp : MI P ∧ CWP P κ ∧ inS P s) : MC (EN en) yX10_mostLiveOf sX10_mostLiveOf [.ref (c 0), .int (zI s)] (fm (cO en c κ)) (fun v w => ∃ κ2 : St, v = some (.int (zI (mxv (lvN P (P 0 11) (P 0 12) (selS P s)) (al P)))) ∧ w = fm (cO en c κ2) ∧ CWP P κ2) := by
  obtain ⟨hM, hC, h⟩ := hp
  have mR := hM.1
  have mC := hM.2.1
  have mN := hM.2.2.1
  have ma := hM.als
  have hs : 0 ≤ s ∧ s < P 0 2 := h
  have e : sp_mostLiveOf P s = (0, mxv (lvN P (P 0 11) (P 0 12) (selS P s)) (al P), P) := gd_t h
  refine MC.post (MCX.mc (k_mostLiveOf en c κ s P ⟨hM, hC.1, ⟨by omega, by omega⟩, hC.2.1, hC.2.2⟩) (noX (by rw [e]) (by intro p hp; simp only [List.mem_cons, List.not_mem_nil, or_false] at hp; rw [hp]; decide))) (fun v w h => ?_)
  obtain ⟨κ2, h1, h2, h3, h4⟩ := h
  rw [e] at h1 h4
  exact ⟨κ2, h1, h2, h4⟩
theorem r_conflictPairs (en c : Nat → Nat) (κ : St) (s : Int) (P : St) (hp : MI P ∧ CWP P κ ∧ inS P s) : MC (EN en) yX10_conflictPairs sX10_conflictPairs [.ref (c 0), .int (zI s)] (fm (cO en c κ)) (fun v w => ∃ κ2 : St, v = some (.int (zI (cpr P s / 2))) ∧ w = fm (cO en c κ2) ∧ CWP P κ2) := by
  obtain ⟨hM, hC, h⟩ := hp
  have mR := hM.1
  have mC := hM.2.1
  have mN := hM.2.2.1
  have ma := hM.als
  have hs : 0 ≤ s ∧ s < P 0 2 := h
  have e : sp_conflictPairs P s = (0, cpr P s / 2, P) := gd_t h
  refine MC.post (MCX.mc (k_conflictPairs en c κ s P ⟨hM, hC.1, ⟨by omega, by omega⟩, hC.2.1, hC.2.2⟩) (noX (by rw [e]) (by intro p hp; simp only [List.mem_cons, List.not_mem_nil, or_false] at hp; rw [hp]; decide))) (fun v w h => ?_)
  obtain ⟨κ2, h1, h2, h3, h4⟩ := h
  rw [e] at h1 h4
  exact ⟨κ2, h1, h2, h4⟩
theorem r_conflictsOf (en c : Nat → Nat) (κ : St) (s : Int) (i : Int) (j : Int) (o : Int) (P : St) (hp : MI P ∧ CWP P κ ∧ inC P s i j ∧ inS P o) : MC (EN en) yX10_conflictsOf sX10_conflictsOf [.ref (c 0), .int (zI s), .int (zI i), .int (zI j), .int (zI o)] (fm (cO en c κ)) (fun v w => ∃ κ2 : St, v = some (.int (zI (ct (fun p => cf P (P 0 11) (P 0 12) (cc P s i j) (o * pt P + p)) (pt P)))) ∧ w = fm (cO en c κ2) ∧ CWP P κ2) := by
  obtain ⟨hM, hC, h⟩ := hp
  have mR := hM.1
  have mC := hM.2.1
  have mN := hM.2.2.1
  have ma := hM.als
  have hc : inC P s i j := h.1
  have hc1 := hc.1
  have hc2 := hc.2
  have ho : 0 ≤ o ∧ o < P 0 2 := h.2
  have e : sp_conflictsOf P s i j o = (0, ct (fun p => cf P (P 0 11) (P 0 12) (cc P s i j) (o * pt P + p)) (pt P), P) := gd_t h
  refine MC.post (MCX.mc (k_conflictsOf en c κ s i j o P ⟨hM, hC.1, ⟨by omega, by omega⟩, ⟨by omega, by omega⟩, ⟨by omega, by omega⟩, ⟨by omega, by omega⟩, hC.2.1, hC.2.2⟩) (noX (by rw [e]) (by intro p hp; simp only [List.mem_cons, List.not_mem_nil, or_false] at hp; rw [hp]; decide))) (fun v w h => ?_)
  obtain ⟨κ2, h1, h2, h3, h4⟩ := h
  rw [e] at h1 h4
  exact ⟨κ2, h1, h2, h4⟩
theorem r_stepOf (en c : Nat → Nat) (κ : St) (s : Int) (i : Int) (j : Int) (P : St) (hp : MI P ∧ CWP P κ ∧ inC P s i j) : MC (EN en) yX10_stepOf sX10_stepOf [.ref (c 0), .int (zI s), .int (zI i), .int (zI j)] (fm (cO en c κ)) (fun v w => ∃ κ2 : St, v = some (.int (zI (bt P (P 0 11) (P 0 12) (cc P s i j)))) ∧ w = fm (cO en c κ2) ∧ CWP P κ2) := by
  obtain ⟨hM, hC, h⟩ := hp
  have mR := hM.1
  have mC := hM.2.1
  have mN := hM.2.2.1
  have ma := hM.als
  have hc : inC P s i j := h
  have hc1 := hc.1
  have hc2 := hc.2
  have e : sp_stepOf P s i j = (0, bt P (P 0 11) (P 0 12) (cc P s i j), P) := gd_t h
  refine MC.post (MCX.mc (k_stepOf en c κ s i j P ⟨hM, hC.1, ⟨by omega, by omega⟩, ⟨by omega, by omega⟩, ⟨by omega, by omega⟩, hC.2.1, hC.2.2⟩) (noX (by rw [e]) (by intro p hp; simp only [List.mem_cons, List.not_mem_nil, or_false] at hp; rw [hp]; decide))) (fun v w h => ?_)
  obtain ⟨κ2, h1, h2, h3, h4⟩ := h
  rw [e] at h1 h4
  exact ⟨κ2, h1, h2, h4⟩
theorem r_statementAt (en c : Nat → Nat) (κ : St) (x : Int) (P : St) (hp : MI P ∧ CWP P κ ∧ inT P x) : MC (EN en) yX10_statementAt sX10_statementAt [.ref (c 0), .int (zI x)] (fm (cO en c κ)) (fun v w => ∃ κ2 : St, v = some (.int (zI (ac P (P 0 11) (P 0 12) x / pt P))) ∧ w = fm (cO en c κ2) ∧ CWP P κ2) := by
  obtain ⟨hM, hC, h⟩ := hp
  have mR := hM.1
  have mC := hM.2.1
  have mN := hM.2.2.1
  have ma := hM.als
  have hx : 0 ≤ x ∧ x < al P := h
  have e : sp_statementAt P x = (0, ac P (P 0 11) (P 0 12) x / pt P, P) := gd_t h
  refine MC.post (MCX.mc (k_statementAt en c κ x P ⟨hM, hC.1, ⟨by omega, by omega⟩, hC.2.1, hC.2.2⟩) (noX (by rw [e]) (by intro p hp; simp only [List.mem_cons, List.not_mem_nil, or_false] at hp; rw [hp]; decide))) (fun v w h => ?_)
  obtain ⟨κ2, h1, h2, h3, h4⟩ := h
  rw [e] at h1 h4
  exact ⟨κ2, h1, h2, h4⟩
theorem r_pointAt (en c : Nat → Nat) (κ : St) (x : Int) (P : St) (hp : MI P ∧ CWP P κ ∧ inT P x) : MC (EN en) yX10_pointAt sX10_pointAt [.ref (c 0), .int (zI x)] (fm (cO en c κ)) (fun v w => ∃ κ2 : St, v = some (.int (zI (ac P (P 0 11) (P 0 12) x % pt P))) ∧ w = fm (cO en c κ2) ∧ CWP P κ2) := by
  obtain ⟨hM, hC, h⟩ := hp
  have mR := hM.1
  have mC := hM.2.1
  have mN := hM.2.2.1
  have ma := hM.als
  have hx : 0 ≤ x ∧ x < al P := h
  have e : sp_pointAt P x = (0, ac P (P 0 11) (P 0 12) x % pt P, P) := gd_t h
  refine MC.post (MCX.mc (k_pointAt en c κ x P ⟨hM, hC.1, ⟨by omega, by omega⟩, hC.2.1, hC.2.2⟩) (noX (by rw [e]) (by intro p hp; simp only [List.mem_cons, List.not_mem_nil, or_false] at hp; rw [hp]; decide))) (fun v w h => ?_)
  obtain ⟨κ2, h1, h2, h3, h4⟩ := h
  rw [e] at h1 h4
  exact ⟨κ2, h1, h2, h4⟩
theorem r_endOf (en c : Nat → Nat) (κ : St) (s : Int) (i : Int) (j : Int) (P : St) (hp : MI P ∧ CWP P κ ∧ inC P s i j) : MC (EN en) yX10_endOf sX10_endOf [.ref (c 0), .int (zI s), .int (zI i), .int (zI j)] (fm (cO en c κ)) (fun v w => ∃ κ2 : St, v = some (.int (zI (enE P (P 0 11) (P 0 12) (cc P s i j)))) ∧ w = fm (cO en c κ2) ∧ CWP P κ2) := by
  obtain ⟨hM, hC, h⟩ := hp
  have mR := hM.1
  have mC := hM.2.1
  have mN := hM.2.2.1
  have ma := hM.als
  have hc : inC P s i j := h
  have hc1 := hc.1
  have hc2 := hc.2
  have e : sp_endOf P s i j = (0, enE P (P 0 11) (P 0 12) (cc P s i j), P) := gd_t h
  refine MC.post (MCX.mc (k_endOf en c κ s i j P ⟨hM, hC.1, ⟨by omega, by omega⟩, ⟨by omega, by omega⟩, ⟨by omega, by omega⟩, hC.2.1, hC.2.2⟩) (noX (by rw [e]) (by intro p hp; simp only [List.mem_cons, List.not_mem_nil, or_false] at hp; rw [hp]; decide))) (fun v w h => ?_)
  obtain ⟨κ2, h1, h2, h3, h4⟩ := h
  rw [e] at h1 h4
  exact ⟨κ2, h1, h2, h4⟩
theorem r_isReadInOrder (en c : Nat → Nat) (κ : St) (s : Int) (x : Int) (P : St) (hp : MI P ∧ CWP P κ ∧ inS P s ∧ (0 ≤ x ∧ x < P 4 s)) : MC (EN en) yX10_isReadInOrder sX10_isReadInOrder [.ref (c 0), .int (zI s), .int (zI x)] (fm (cO en c κ)) (fun v w => ∃ κ2 : St, v = some (.int (zI (bz (dcd (inO P (P 0 11) (P 0 12) s x))))) ∧ w = fm (cO en c κ2) ∧ CWP P κ2) := by
  obtain ⟨hM, hC, h⟩ := hp
  have mR := hM.1
  have mC := hM.2.1
  have mN := hM.2.2.1
  have ma := hM.als
  have hs : 0 ≤ s ∧ s < P 0 2 := h.1
  have h4 := rds_b hM hs.1 (by omega)
  have e : sp_isReadInOrder P s x = (0, bz (dcd (inO P (P 0 11) (P 0 12) s x)), P) := gd_t h
  refine MC.post (MCX.mc (k_isReadInOrder en c κ s x P ⟨hM, hC.1, ⟨by omega, by omega⟩, ⟨by omega, by omega⟩, hC.2.1, hC.2.2⟩) (noX (by rw [e]) (by intro p hp; simp only [List.mem_cons, List.not_mem_nil, or_false] at hp; rw [hp]; decide))) (fun v w h => ?_)
  obtain ⟨κ2, h1, h2, h3, h4⟩ := h
  rw [e] at h1 h4
  exact ⟨κ2, h1, h2, h4⟩
theorem r_windowSize (en c : Nat → Nat) (κ : St) (s : Int) (P : St) (hp : MI P ∧ CWP P κ ∧ inS P s) : MC (EN en) yX10_windowSize sX10_windowSize [.ref (c 0), .int (zI s)] (fm (cO en c κ)) (fun v w => ∃ κ2 : St, v = some (.int (zI (sz P s))) ∧ w = fm (cO en c κ2) ∧ CWP P κ2) := by
  obtain ⟨hM, hC, h⟩ := hp
  have mR := hM.1
  have mC := hM.2.1
  have mN := hM.2.2.1
  have ma := hM.als
  have hs : 0 ≤ s ∧ s < P 0 2 := h
  have e : sp_windowSize P s = (0, sz P s, P) := gd_t h
  refine MC.post (MCX.mc (k_windowSize en c κ s P ⟨hM, hC.1, ⟨by omega, by omega⟩, hC.2.1, hC.2.2⟩) (noX (by rw [e]) (by intro p hp; simp only [List.mem_cons, List.not_mem_nil, or_false] at hp; rw [hp]; decide))) (fun v w h => ?_)
  obtain ⟨κ2, h1, h2, h3, h4⟩ := h
  rw [e] at h1 h4
  exact ⟨κ2, h1, h2, h4⟩
theorem r_placeOf (en c : Nat → Nat) (κ : St) (s : Int) (i : Int) (j : Int) (P : St) (hp : MI P ∧ CWP P κ ∧ inC P s i j) : MC (EN en) yX10_placeOf sX10_placeOf [.ref (c 0), .int (zI s), .int (zI i), .int (zI j)] (fm (cO en c κ)) (fun v w => ∃ κ2 : St, v = some (.int (zI (plc P s (i * P 0 1 + j)))) ∧ w = fm (cO en c κ2) ∧ CWP P κ2) := by
  obtain ⟨hM, hC, h⟩ := hp
  have mR := hM.1
  have mC := hM.2.1
  have mN := hM.2.2.1
  have ma := hM.als
  have hc : inC P s i j := h
  have hc1 := hc.1
  have hc2 := hc.2
  have e : sp_placeOf P s i j = (0, plc P s (i * P 0 1 + j), P) := gd_t h
  refine MC.post (MCX.mc (k_placeOf en c κ s i j P ⟨hM, hC.1, ⟨by omega, by omega⟩, ⟨by omega, by omega⟩, ⟨by omega, by omega⟩, hC.2.1, hC.2.2⟩) (noX (by rw [e]) (by intro p hp; simp only [List.mem_cons, List.not_mem_nil, or_false] at hp; rw [hp]; decide))) (fun v w h => ?_)
  obtain ⟨κ2, h1, h2, h3, h4⟩ := h
  rw [e] at h1 h4
  exact ⟨κ2, h1, h2, h4⟩
theorem r_isRight (en c : Nat → Nat) (κ : St) (s : Int) (P : St) (hp : MI P ∧ CWP P κ ∧ inS P s) : MC (EN en) yX10_isRight sX10_isRight [.ref (c 0), .int (zI s)] (fm (cO en c κ)) (fun v w => ∃ κ2 : St, v = some (.int (zI (bz (dcd (wR P s))))) ∧ w = fm (cO en c κ2) ∧ CWP P κ2) := by
  obtain ⟨hM, hC, h⟩ := hp
  have mR := hM.1
  have mC := hM.2.1
  have mN := hM.2.2.1
  have ma := hM.als
  have hs : 0 ≤ s ∧ s < P 0 2 := h
  have e : sp_isRight P s = (0, bz (dcd (wR P s)), P) := gd_t h
  refine MC.post (MCX.mc (k_isRight en c κ s P ⟨hM, hC.1, ⟨by omega, by omega⟩, hC.2.1, hC.2.2⟩) (noX (by rw [e]) (by intro p hp; simp only [List.mem_cons, List.not_mem_nil, or_false] at hp; rw [hp]; decide))) (fun v w h => ?_)
  obtain ⟨κ2, h1, h2, h3, h4⟩ := h
  rw [e] at h1 h4
  exact ⟨κ2, h1, h2, h4⟩
theorem r_leastRest (en c : Nat → Nat) (κ : St) (s : Int) (P : St) (hp : MI P ∧ CWP P κ ∧ inS P s) : MC (EN en) yX10_leastRest sX10_leastRest [.ref (c 0), .int (zI s)] (fm (cO en c κ)) (fun v w => ∃ κ2 : St, v = some (.int (zI (lr P (P 0 11) (P 0 12) s))) ∧ w = fm (cO en c κ2) ∧ CWP P κ2) := by
  obtain ⟨hM, hC, h⟩ := hp
  have mR := hM.1
  have mC := hM.2.1
  have mN := hM.2.2.1
  have ma := hM.als
  have hs : 0 ≤ s ∧ s < P 0 2 := h
  have e : sp_leastRest P s = (0, lr P (P 0 11) (P 0 12) s, P) := gd_t h
  refine MC.post (MCX.mc (k_leastRest en c κ s P ⟨hM, hC.1, ⟨by omega, by omega⟩, hC.2.1, hC.2.2⟩) (noX (by rw [e]) (by intro p hp; simp only [List.mem_cons, List.not_mem_nil, or_false] at hp; rw [hp]; decide))) (fun v w h => ?_)
  obtain ⟨κ2, h1, h2, h3, h4⟩ := h
  rw [e] at h1 h4
  exact ⟨κ2, h1, h2, h4⟩
theorem r_leastRestByDifferences (en c : Nat → Nat) (κ : St) (s : Int) (P : St) (hp : MI P ∧ CWP P κ ∧ inS P s) : MC (EN en) yX10_leastRestByDifferences sX10_leastRestByDifferences [.ref (c 0), .int (zI s)] (fm (cO en c κ)) (fun v w => ∃ κ2 : St, v = some (.int (zI (lr P (P 0 11) (P 0 12) s))) ∧ w = fm (cO en c κ2) ∧ CWP P κ2) := by
  obtain ⟨hM, hC, h⟩ := hp
  have mR := hM.1
  have mC := hM.2.1
  have mN := hM.2.2.1
  have ma := hM.als
  have hs : 0 ≤ s ∧ s < P 0 2 := h
  have e : sp_leastRest P s = (0, lr P (P 0 11) (P 0 12) s, P) := gd_t h
  refine MC.post (MCX.mc (k_leastRestByDifferences en c κ s P ⟨hM, hC.1, ⟨by omega, by omega⟩, hC.2.1, hC.2.2⟩) (noX (by rw [e]) (by intro p hp; simp only [List.mem_cons, List.not_mem_nil, or_false] at hp; rw [hp]; decide))) (fun v w h => ?_)
  obtain ⟨κ2, h1, h2, h3, h4⟩ := h
  rw [e] at h1 h4
  exact ⟨κ2, h1, h2, h4⟩
theorem r_leastRowRest (en c : Nat → Nat) (κ : St) (s : Int) (P : St) (hp : MI P ∧ CWP P κ ∧ inS P s) : MC (EN en) yX10_leastRowRest sX10_leastRowRest [.ref (c 0), .int (zI s)] (fm (cO en c κ)) (fun v w => ∃ κ2 : St, v = some (.int (zI (tw1 P (P 0 11) (P 0 12) s))) ∧ w = fm (cO en c κ2) ∧ CWP P κ2) := by
  obtain ⟨hM, hC, h⟩ := hp
  have mR := hM.1
  have mC := hM.2.1
  have mN := hM.2.2.1
  have ma := hM.als
  have hs : 0 ≤ s ∧ s < P 0 2 := h
  have e : sp_leastRowRest P s = (0, tw1 P (P 0 11) (P 0 12) s, P) := gd_t h
  refine MC.post (MCX.mc (k_leastRowRest en c κ s P ⟨hM, hC.1, ⟨by omega, by omega⟩, hC.2.1, hC.2.2⟩) (noX (by rw [e]) (by intro p hp; simp only [List.mem_cons, List.not_mem_nil, or_false] at hp; rw [hp]; decide))) (fun v w h => ?_)
  obtain ⟨κ2, h1, h2, h3, h4⟩ := h
  rw [e] at h1 h4
  exact ⟨κ2, h1, h2, h4⟩
theorem r_leastColumnRest (en c : Nat → Nat) (κ : St) (s : Int) (P : St) (hp : MI P ∧ CWP P κ ∧ inS P s) : MC (EN en) yX10_leastColumnRest sX10_leastColumnRest [.ref (c 0), .int (zI s)] (fm (cO en c κ)) (fun v w => ∃ κ2 : St, v = some (.int (zI (tw2 P (P 0 11) (P 0 12) s))) ∧ w = fm (cO en c κ2) ∧ CWP P κ2) := by
  obtain ⟨hM, hC, h⟩ := hp
  have mR := hM.1
  have mC := hM.2.1
  have mN := hM.2.2.1
  have ma := hM.als
  have hs : 0 ≤ s ∧ s < P 0 2 := h
  have e : sp_leastColumnRest P s = (0, tw2 P (P 0 11) (P 0 12) s, P) := gd_t h
  refine MC.post (MCX.mc (k_leastColumnRest en c κ s P ⟨hM, hC.1, ⟨by omega, by omega⟩, hC.2.1, hC.2.2⟩) (noX (by rw [e]) (by intro p hp; simp only [List.mem_cons, List.not_mem_nil, or_false] at hp; rw [hp]; decide))) (fun v w h => ?_)
  obtain ⟨κ2, h1, h2, h3, h4⟩ := h
  rw [e] at h1 h4
  exact ⟨κ2, h1, h2, h4⟩
theorem r_leastSlantModulus (en c : Nat → Nat) (κ : St) (s : Int) (P : St) (hp : MI P ∧ CWP P κ ∧ inS P s) : MC (EN en) yX10_leastSlantModulus sX10_leastSlantModulus [.ref (c 0), .int (zI s)] (fm (cO en c κ)) (fun v w => ∃ κ2 : St, v = some (.int (zI (ls P (P 0 11) (P 0 12) s / 10))) ∧ w = fm (cO en c κ2) ∧ CWP P κ2) := by
  obtain ⟨hM, hC, h⟩ := hp
  have mR := hM.1
  have mC := hM.2.1
  have mN := hM.2.2.1
  have ma := hM.als
  have hs : 0 ≤ s ∧ s < P 0 2 := h
  have e : sp_leastSlantModulus P s = (0, ls P (P 0 11) (P 0 12) s / 10, P) := gd_t h
  refine MC.post (MCX.mc (k_leastSlantModulus en c κ s P ⟨hM, hC.1, ⟨by omega, by omega⟩, hC.2.1, hC.2.2⟩) (noX (by rw [e]) (by intro p hp; simp only [List.mem_cons, List.not_mem_nil, or_false] at hp; rw [hp]; decide))) (fun v w h => ?_)
  obtain ⟨κ2, h1, h2, h3, h4⟩ := h
  rw [e] at h1 h4
  exact ⟨κ2, h1, h2, h4⟩
theorem r_leastSlant (en c : Nat → Nat) (κ : St) (s : Int) (P : St) (hp : MI P ∧ CWP P κ ∧ inS P s) : MC (EN en) yX10_leastSlant sX10_leastSlant [.ref (c 0), .int (zI s)] (fm (cO en c κ)) (fun v w => ∃ κ2 : St, v = some (.int (zI (ls P (P 0 11) (P 0 12) s % 10))) ∧ w = fm (cO en c κ2) ∧ CWP P κ2) := by
  obtain ⟨hM, hC, h⟩ := hp
  have mR := hM.1
  have mC := hM.2.1
  have mN := hM.2.2.1
  have ma := hM.als
  have hs : 0 ≤ s ∧ s < P 0 2 := h
  have e : sp_leastSlant P s = (0, ls P (P 0 11) (P 0 12) s % 10, P) := gd_t h
  refine MC.post (MCX.mc (k_leastSlant en c κ s P ⟨hM, hC.1, ⟨by omega, by omega⟩, hC.2.1, hC.2.2⟩) (noX (by rw [e]) (by intro p hp; simp only [List.mem_cons, List.not_mem_nil, or_false] at hp; rw [hp]; decide))) (fun v w h => ?_)
  obtain ⟨κ2, h1, h2, h3, h4⟩ := h
  rw [e] at h1 h4
  exact ⟨κ2, h1, h2, h4⟩
theorem r_leastJointRest (en c : Nat → Nat) (κ : St) (s : Int) (o : Int) (P : St) (hp : MI P ∧ CWP P κ ∧ inS P s ∧ inS P o) : MC (EN en) yX10_leastJointRest sX10_leastJointRest [.ref (c 0), .int (zI s), .int (zI o)] (fm (cO en c κ)) (fun v w => ∃ κ2 : St, v = some (.int (zI (ljr P (P 0 11) (P 0 12) s o))) ∧ w = fm (cO en c κ2) ∧ CWP P κ2) := by
  obtain ⟨hM, hC, h⟩ := hp
  have mR := hM.1
  have mC := hM.2.1
  have mN := hM.2.2.1
  have ma := hM.als
  have hs : 0 ≤ s ∧ s < P 0 2 := h.1
  have ho : 0 ≤ o ∧ o < P 0 2 := h.2
  have e : sp_leastJointRest P s o = (0, ljr P (P 0 11) (P 0 12) s o, P) := gd_t h
  refine MC.post (MCX.mc (k_leastJointRest en c κ s o P ⟨hM, hC.1, ⟨by omega, by omega⟩, ⟨by omega, by omega⟩, hC.2.1, hC.2.2⟩) (noX (by rw [e]) (by intro p hp; simp only [List.mem_cons, List.not_mem_nil, or_false] at hp; rw [hp]; decide))) (fun v w h => ?_)
  obtain ⟨κ2, h1, h2, h3, h4⟩ := h
  rw [e] at h1 h4
  exact ⟨κ2, h1, h2, h4⟩
theorem r_valueOf (en c : Nat → Nat) (κ : St) (s : Int) (i : Int) (j : Int) (P : St) (hp : MI P ∧ CWP P κ ∧ inC P s i j) : MC (EN en) yX10_valueOf sX10_valueOf [.ref (c 0), .int (zI s), .int (zI i), .int (zI j)] (fm (cO en c κ)) (fun v w => ∃ κ2 : St, v = some (.int (zI (vof P (P 0 11) (P 0 12) (cc P s i j)))) ∧ w = fm (cO en c κ2) ∧ CWP P κ2) := by
  obtain ⟨hM, hC, h⟩ := hp
  have mR := hM.1
  have mC := hM.2.1
  have mN := hM.2.2.1
  have ma := hM.als
  have hc : inC P s i j := h
  have hc1 := hc.1
  have hc2 := hc.2
  have e : sp_valueOf P s i j = (0, vof P (P 0 11) (P 0 12) (cc P s i j), P) := gd_t h
  refine MC.post (MCX.mc (k_valueOf en c κ s i j P ⟨hM, hC.1, ⟨by omega, by omega⟩, ⟨by omega, by omega⟩, ⟨by omega, by omega⟩, hC.2.1, hC.2.2⟩) (noX (by rw [e]) (by intro p hp; simp only [List.mem_cons, List.not_mem_nil, or_false] at hp; rw [hp]; decide))) (fun v w h => ?_)
  obtain ⟨κ2, h1, h2, h3, h4⟩ := h
  rw [e] at h1 h4
  exact ⟨κ2, h1, h2, h4⟩
theorem r_contractedValueOf (en c : Nat → Nat) (κ : St) (s : Int) (i : Int) (j : Int) (P : St) (hp : MI P ∧ CWP P κ ∧ inC P s i j) : MC (EN en) yX10_contractedValueOf sX10_contractedValueOf [.ref (c 0), .int (zI s), .int (zI i), .int (zI j)] (fm (cO en c κ)) (fun v w => ∃ κ2 : St, v = some (.int (zI (cof P (P 0 11) (P 0 12) (cc P s i j)))) ∧ w = fm (cO en c κ2) ∧ CWP P κ2) := by
  obtain ⟨hM, hC, h⟩ := hp
  have mR := hM.1
  have mC := hM.2.1
  have mN := hM.2.2.1
  have ma := hM.als
  have hc : inC P s i j := h
  have hc1 := hc.1
  have hc2 := hc.2
  have e : sp_contractedValueOf P s i j = (0, cof P (P 0 11) (P 0 12) (cc P s i j), P) := gd_t h
  refine MC.post (MCX.mc (k_contractedValueOf en c κ s i j P ⟨hM, hC.1, ⟨by omega, by omega⟩, ⟨by omega, by omega⟩, ⟨by omega, by omega⟩, hC.2.1, hC.2.2⟩) (noX (by rw [e]) (by intro p hp; simp only [List.mem_cons, List.not_mem_nil, or_false] at hp; rw [hp]; decide))) (fun v w h => ?_)
  obtain ⟨κ2, h1, h2, h3, h4⟩ := h
  rw [e] at h1 h4
  exact ⟨κ2, h1, h2, h4⟩
theorem r_firstWrongStep (en c : Nat → Nat) (κ : St) (P : St) (hp : MI P ∧ CWP P κ) : MC (EN en) yX10_firstWrongStep sX10_firstWrongStep [.ref (c 0)] (fm (cO en c κ)) (fun v w => ∃ κ2 : St, v = some (.int (zI (fws P (P 0 11) (P 0 12)))) ∧ w = fm (cO en c κ2) ∧ CWP P κ2) := by
  obtain ⟨hM, hC⟩ := hp
  have e : sp_firstWrongStep P = (0, fws P (P 0 11) (P 0 12), P) := rfl
  refine MC.post (k_firstWrongStep en c κ P ⟨hM, hC.1, hC.2.1, hC.2.2⟩) (fun v w h => ?_)
  obtain ⟨κ2, h1, h2, h3, h4⟩ := h
  rw [e] at h1 h4
  exact ⟨κ2, h1, h2, h4⟩
theorem r_room (en c : Nat → Nat) (κ : St) (P : St) (hp : MI P ∧ CWP P κ) : MC (EN en) yX10_room sX10_room [.ref (c 0)] (fm (cO en c κ)) (fun v w => ∃ κ2 : St, v = some (.int (zI (smv (sz P) (P 0 2)))) ∧ w = fm (cO en c κ2) ∧ CWP P κ2) := MC.post (k_room en c κ P ⟨hp.1, hp.2.1, hp.2.2.1⟩) (fun v w h => ⟨κ, h.1, h.2, hp.2⟩)

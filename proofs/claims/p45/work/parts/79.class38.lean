/-! the class: lists: one added, all dropped -/
set_option maxRecDepth 100000 in
set_option maxHeartbeats 4000000 in
theorem k_grow1 (en : Nat → Nat) (a : Nat) (m : Int) : MC (EN en) yJx4a65c_grow_92f84 sJx4a65c_grow_92f84 [.ref a, .int (zI 1)] [(a, .inr (0, [.int (zI m), .ref (en 5), .int (zI 0)]))] (fun v w => ∃ ad : Nat, v = some (.ref ad) ∧ w = [(a, .inr (0, [.int (zI m), .ref ad, .int (zI 0)])), (ad, oE 3 10 (fun _ => none))]) := by
  refine MC.of (EN.stb en) [some (.ref a), some (.int (zI 1)), none, none] 2 rfl rfl rfl (by simp [Value.category]) (Nat.le_of_ble_eq_true rfl) (fun K hK hR => ?_)
  refine V_aload_n dJx4a65c_grow_92f84_0 rfl ?_
  refine V_getf (C0 := RJx4a65c) (T := TJx4a65c) (N := 3) (ci := 0) (fs := [.int (zI m), .ref (en 5), .int (zI 0)]) 0 1 iwJx4a65c (by decide) w56 (Or.inl rfl) rfl rfl rfl dJx4a65c_grow_92f84_1 ?_
  refine V_lenE hK dJx4a65c_grow_92f84_4 ?_
  refine V_istore_n (L' := [some (.ref a), some (.int (zI 1)), some (.int (zI 0)), none]) dJx4a65c_grow_92f84_5 (by decide) rfl ?_
  refine V_iload_n dJx4a65c_grow_92f84_6 rfl ?_
  refine V_if_gt (tgt := 20) dJx4a65c_grow_92f84_7 (by decide) ⟨by omega, by omega⟩ (fun h => absurd h (by decide)) (fun _ => ?_)
  refine V_aload_n dJx4a65c_grow_92f84_10 rfl ?_
  refine V_getf (C0 := RJx4a65c) (T := TJx4a65c) (N := 3) (ci := 0) (fs := [.int (zI m), .ref (en 5), .int (zI 0)]) 0 1 iwJx4a65c (by decide) w56 (Or.inl rfl) rfl rfl rfl dJx4a65c_grow_92f84_11 ?_
  refine V_getE hK w54 dJx4a65c_grow_92f84_14 ?_
  refine V_acmp_eq (tgt := 45) dJx4a65c_grow_92f84_17 (by decide) (fun _ => ?_) (fun h => absurd rfl h)
  refine V_aload_n dJx4a65c_grow_92f84_45 rfl ?_
  refine V_bipush dJx4a65c_grow_92f84_46 (by decide) ?_
  refine V_iload_n dJx4a65c_grow_92f84_48 rfl ?_
  refine V_callSE (As := [.int (zI 10), .int (zI 1)]) hK (k_max en 10 1 ⟨⟨by omega, by omega⟩, by omega, by omega⟩) mokJ9_max_7cf53 w698 w354 ⟨Nat.le_of_ble_eq_true rfl, Nat.le_of_ble_eq_true rfl⟩ rfl (Nat.le_of_ble_eq_true rfl) ⟨Nat.le_of_ble_eq_true rfl, Nat.le_of_ble_eq_true rfl⟩ dJx4a65c_grow_92f84_49 (fun v w h => ?_)
  obtain ⟨rfl, -⟩ := h
  show V K sJx4a65c_grow_92f84 0 0 [(a, .inr (0, [.int (zI m), .ref (en 5), .int (zI 0)]))] [some (.ref a), some (.int (zI 1)), some (.int (zI 0)), none] [.int (zI (maxI 10 1)), .ref a] 52
  refine V_eqT (y := zI 10) rfl ?_
  refine V_newq (N := 10) hK w699 rfl (by decide) ⟨Nat.le_of_ble_eq_true rfl, Nat.le_of_ble_eq_true rfl⟩ dJx4a65c_grow_92f84_52 (fun ad => ?_)
  show V K sJx4a65c_grow_92f84 1 10 [(a, .inr (0, [.int (zI m), .ref (en 5), .int (zI 0)])), (ad, oE 3 10 (fun _ => none))] [some (.ref a), some (.int (zI 1)), some (.int (zI 0)), none] [.ref ad, .ref a] 55
  refine V_dup_x1 dJx4a65c_grow_92f84_55 rfl rfl ?_
  refine V_putf (C0 := RJx4a65c) (T := TJx4a65c) (N := 3) (ci := 0) (fs := [.int (zI m), .ref (en 5), .int (zI 0)]) 0 1 iwJx4a65c (by decide) w56 (Or.inl rfl) tyJx4a65c tyJx4a65c_ok nmJx4a65c rfl rfl rfl (Nat.le_of_ble_eq_true rfl) rfl rfl dJx4a65c_grow_92f84_56 ?_
  show V K sJx4a65c_grow_92f84 1 10 [(a, .inr (0, [.int (zI m), .ref ad, .int (zI 0)])), (ad, oE 3 10 (fun _ => none))] [some (.ref a), some (.int (zI 1)), some (.int (zI 0)), none] [.ref ad] 59
  refine V_aret hR rfl (Or.inr ⟨_, rfl⟩) (Or.inr ⟨_, rfl⟩) (Nat.le_of_ble_eq_true rfl) (Nat.le_of_ble_eq_true rfl) dJx4a65c_grow_92f84_59 ?_
  exact ⟨ad, rfl, rfl⟩
set_option maxRecDepth 100000 in
set_option maxHeartbeats 4000000 in
theorem k_grow0 (en : Nat → Nat) (a : Nat) (m : Int) : MC (EN en) yJx4a65c_grow_d5877 sJx4a65c_grow_d5877 [.ref a] [(a, .inr (0, [.int (zI m), .ref (en 5), .int (zI 0)]))] (fun v w => ∃ ad : Nat, v = some (.ref ad) ∧ w = [(a, .inr (0, [.int (zI m), .ref ad, .int (zI 0)])), (ad, oE 3 10 (fun _ => none))]) := by
  refine MC.of (EN.stb en) [some (.ref a)] 0 rfl rfl rfl (by simp [Value.category]) (Nat.le_of_ble_eq_true rfl) (fun K hK hR => ?_)
  refine V_aload_n dJx4a65c_grow_d5877_0 rfl ?_
  refine V_aload_n dJx4a65c_grow_d5877_1 rfl ?_
  refine V_getf (C0 := RJx4a65c) (T := TJx4a65c) (N := 3) (ci := 0) (fs := [.int (zI m), .ref (en 5), .int (zI 0)]) 0 2 iwJx4a65c (by decide) w57 (Or.inl rfl) rfl rfl rfl dJx4a65c_grow_d5877_2 ?_
  refine V_iconst dJx4a65c_grow_d5877_5 ?_
  refine V_iadd dJx4a65c_grow_d5877_6 ?_
  refine V_eqT (y := zI 1) rfl ?_
  refine V_callVF (As := [.int (zI 1)]) (b := a) (q0 := 0) (ci := 0) (fs := [.int (zI m), .ref (en 5), .int (zI 0)]) (T := TJx4a65c) (N := 3) rfl rfl hK (k_grow1 en a m) mokJx4a65c_grow_92f84 w653 w655 wps1_0 ⟨Nat.le_of_ble_eq_true rfl, Nat.le_of_ble_eq_true rfl⟩ rfl (Nat.le_of_ble_eq_true rfl) ⟨Nat.le_of_ble_eq_true rfl, Nat.le_of_ble_eq_true rfl⟩ dJx4a65c_grow_d5877_7 (fun v w h => ?_)
  obtain ⟨ad, rfl, rfl⟩ := h
  show V K sJx4a65c_grow_d5877 1 10 [(a, .inr (0, [.int (zI m), .ref ad, .int (zI 0)])), (ad, oE 3 10 (fun _ => none))] [some (.ref a)] [.ref ad] 10
  refine V_aret hR rfl (Or.inr ⟨_, rfl⟩) (Or.inr ⟨_, rfl⟩) (Nat.le_of_ble_eq_true rfl) (Nat.le_of_ble_eq_true rfl) dJx4a65c_grow_d5877_10 ?_
  exact ⟨ad, rfl, rfl⟩
set_option maxRecDepth 100000 in
set_option maxHeartbeats 4000000 in
theorem k_add3E (en : Nat → Nat) (a : Nat) (m : Int) (b : Nat) (ci : Nat) (vs : List Value) (r : vw_C) (hc : vwCl[ci]? = some r) (hca : Cond.castable r.1 "java/lang/Object" ∈ WN) : MC (EN en) yJx4a65c_add_72be8 sJx4a65c_add_72be8 [.ref a, .ref b, .ref (en 5), .int (zI 0)] [(a, .inr (0, [.int (zI m), .ref (en 5), .int (zI 0)])), (b, .inr (ci, vs))] (fun v w => ∃ ad : Nat, v = none ∧ w = [(a, .inr (0, [.int (zI m), .ref ad, .int (zI (0 + 1))])), (ad, oE 3 10 (fup (fun _ => none) 0 (some b))), (b, .inr (ci, vs))]) := by
  refine MC.of (EN.stb en) [some (.ref a), some (.ref b), some (.ref (en 5)), some (.int (zI 0))] 0 rfl rfl rfl (by simp [Value.category]) (Nat.le_of_ble_eq_true rfl) (fun K hK hR => ?_)
  refine V_iload_n dJx4a65c_add_72be8_0 rfl ?_
  refine V_aload_n dJx4a65c_add_72be8_1 rfl ?_
  refine V_lenE hK dJx4a65c_add_72be8_2 ?_
  refine V_icmp_ne (tgt := 11) dJx4a65c_add_72be8_3 (by decide) ⟨⟨by omega, by omega⟩, ⟨by omega, by omega⟩⟩ (fun h => absurd rfl h) (fun _ => ?_)
  refine V_aload_n dJx4a65c_add_72be8_6 rfl ?_
  refine V_callVA (As := []) (b := a) (q0 := 0) (ci := 0) (fs := [.int (zI m), .ref (en 5), .int (zI 0)]) (T := TJx4a65c) (N := 3) rfl rfl (wc := [(a, .inr (0, [.int (zI m), .ref (en 5), .int (zI 0)]))]) (wr := [(b, .inr (ci, vs))]) rfl hK (k_grow0 en a m) mokJx4a65c_grow_d5877 w649 w651 wps0_15 ⟨Nat.le_of_ble_eq_true rfl, Nat.le_of_ble_eq_true rfl⟩ rfl (Nat.le_of_ble_eq_true rfl) ⟨Nat.le_of_ble_eq_true rfl, Nat.le_of_ble_eq_true rfl⟩ dJx4a65c_add_72be8_7 (fun v w h => ?_)
  obtain ⟨ad, rfl, rfl⟩ := h
  show V K sJx4a65c_add_72be8 1 10 [(a, .inr (0, [.int (zI m), .ref ad, .int (zI 0)])), (ad, oE 3 10 (fun _ => none)), (b, .inr (ci, vs))] [some (.ref a), some (.ref b), some (.ref (en 5)), some (.int (zI 0))] [.ref ad] 10
  refine V_astore_n (L' := [some (.ref a), some (.ref b), some (.ref ad), some (.int (zI 0))]) dJx4a65c_add_72be8_10 (by decide) rfl ?_
  refine V_aload_n dJx4a65c_add_72be8_11 rfl ?_
  refine V_iload_n dJx4a65c_add_72be8_12 rfl ?_
  refine V_aload_n dJx4a65c_add_72be8_13 rfl ?_
  refine V_aastO (N := 10) hK 1 2 rfl hca rfl hc ⟨by omega, by omega⟩ (by decide) dJx4a65c_add_72be8_14 ?_
  show V K sJx4a65c_add_72be8 1 10 [(a, .inr (0, [.int (zI m), .ref ad, .int (zI 0)])), (ad, oE 3 10 (fup (fun _ => none) 0 (some b))), (b, .inr (ci, vs))] [some (.ref a), some (.ref b), some (.ref ad), some (.int (zI 0))] [] 15
  refine V_aload_n dJx4a65c_add_72be8_15 rfl ?_
  refine V_iload_n dJx4a65c_add_72be8_16 rfl ?_
  refine V_iconst dJx4a65c_add_72be8_17 ?_
  refine V_iadd dJx4a65c_add_72be8_18 ?_
  refine V_putf (C0 := RJx4a65c) (T := TJx4a65c) (N := 3) (ci := 0) (fs := [.int (zI m), .ref ad, .int (zI 0)]) 0 2 iwJx4a65c (by decide) w57 (Or.inl rfl) tyJx4a65c tyJx4a65c_ok nmJx4a65c rfl rfl rfl (Nat.le_of_ble_eq_true rfl) rfl rfl dJx4a65c_add_72be8_19 ?_
  show V K sJx4a65c_add_72be8 1 10 [(a, .inr (0, [.int (zI m), .ref ad, .int (zI (0 + 1))])), (ad, oE 3 10 (fup (fun _ => none) 0 (some b))), (b, .inr (ci, vs))] [some (.ref a), some (.ref b), some (.ref ad), some (.int (zI 0))] [] 22
  refine V_vret hR rfl (Nat.le_of_ble_eq_true rfl) (Nat.le_of_ble_eq_true rfl) dJx4a65c_add_72be8_22 ?_
  exact ⟨ad, rfl, rfl⟩
set_option maxRecDepth 100000 in
set_option maxHeartbeats 4000000 in
theorem k_add3A (en : Nat → Nat) (a ad : Nat) (m n : Int) (f : Int → Option Nat) (hn : 0 ≤ n ∧ n < 10) (b : Nat) (ci : Nat) (vs : List Value) (r : vw_C) (hc : vwCl[ci]? = some r) (hca : Cond.castable r.1 "java/lang/Object" ∈ WN) : MC (EN en) yJx4a65c_add_72be8 sJx4a65c_add_72be8 [.ref a, .ref b, .ref ad, .int (zI n)] [(a, .inr (0, [.int (zI m), .ref ad, .int (zI n)])), (ad, oE 3 10 f), (b, .inr (ci, vs))] (fun v w => v = none ∧ w = [(a, .inr (0, [.int (zI m), .ref ad, .int (zI (n + 1))])), (ad, oE 3 10 (fup f n (some b))), (b, .inr (ci, vs))]) := by
  refine MC.of (EN.stb en) [some (.ref a), some (.ref b), some (.ref ad), some (.int (zI n))] 0 rfl rfl rfl (by simp [Value.category]) (Nat.le_of_ble_eq_true rfl) (fun K hK hR => ?_)
  refine V_iload_n dJx4a65c_add_72be8_0 rfl ?_
  refine V_aload_n dJx4a65c_add_72be8_1 rfl ?_
  refine V_alen 1 rfl (fun _ => rfl) dJx4a65c_add_72be8_2 ?_
  show V K sJx4a65c_add_72be8 0 0 [(a, .inr (0, [.int (zI m), .ref ad, .int (zI n)])), (ad, oE 3 10 f), (b, .inr (ci, vs))] [some (.ref a), some (.ref b), some (.ref ad), some (.int (zI n))] [.int (zI 10), .int (zI n)] 3
  refine V_icmp_ne (tgt := 11) dJx4a65c_add_72be8_3 (by decide) ⟨⟨by omega, by omega⟩, ⟨by omega, by omega⟩⟩ (fun _ => ?_) (fun h => absurd h (by omega))
  refine V_aload_n dJx4a65c_add_72be8_11 rfl ?_
  refine V_iload_n dJx4a65c_add_72be8_12 rfl ?_
  refine V_aload_n dJx4a65c_add_72be8_13 rfl ?_
  refine V_aastO (N := 10) hK 1 2 rfl hca rfl hc ⟨by omega, by omega⟩ (by decide) dJx4a65c_add_72be8_14 ?_
  show V K sJx4a65c_add_72be8 0 0 [(a, .inr (0, [.int (zI m), .ref ad, .int (zI n)])), (ad, oE 3 10 (fup f n (some b))), (b, .inr (ci, vs))] [some (.ref a), some (.ref b), some (.ref ad), some (.int (zI n))] [] 15
  refine V_aload_n dJx4a65c_add_72be8_15 rfl ?_
  refine V_iload_n dJx4a65c_add_72be8_16 rfl ?_
  refine V_iconst dJx4a65c_add_72be8_17 ?_
  refine V_iadd dJx4a65c_add_72be8_18 ?_
  refine V_putf (C0 := RJx4a65c) (T := TJx4a65c) (N := 3) (ci := 0) (fs := [.int (zI m), .ref ad, .int (zI n)]) 0 2 iwJx4a65c (by decide) w57 (Or.inl rfl) tyJx4a65c tyJx4a65c_ok nmJx4a65c rfl rfl rfl (Nat.le_of_ble_eq_true rfl) rfl rfl dJx4a65c_add_72be8_19 ?_
  show V K sJx4a65c_add_72be8 0 0 [(a, .inr (0, [.int (zI m), .ref ad, .int (zI (n + 1))])), (ad, oE 3 10 (fup f n (some b))), (b, .inr (ci, vs))] [some (.ref a), some (.ref b), some (.ref ad), some (.int (zI n))] [] 22
  refine V_vret hR rfl (Nat.le_of_ble_eq_true rfl) (Nat.le_of_ble_eq_true rfl) dJx4a65c_add_72be8_22 ?_
  exact ⟨rfl, rfl⟩
set_option maxRecDepth 100000 in
set_option maxHeartbeats 4000000 in
theorem k_addE (en : Nat → Nat) (a : Nat) (m : Int) (b : Nat) (ci : Nat) (vs : List Value) (r : vw_C) (hc : vwCl[ci]? = some r) (hca : Cond.castable r.1 "java/lang/Object" ∈ WN) : MC (EN en) yJx4a65c_add_9ea2d sJx4a65c_add_9ea2d [.ref a, .ref b] [(a, .inr (0, [.int (zI m), .ref (en 5), .int (zI 0)])), (b, .inr (ci, vs))] (fun v w => ∃ ad : Nat, v = some (.int (zI (bz true))) ∧ w = [(a, .inr (0, [.int (zI (m + 1)), .ref ad, .int (zI (0 + 1))])), (ad, oE 3 10 (fup (fun _ => none) 0 (some b))), (b, .inr (ci, vs))]) := by
  refine MC.of (EN.stb en) [some (.ref a), some (.ref b)] 0 rfl rfl rfl (by simp [Value.category]) (Nat.le_of_ble_eq_true rfl) (fun K hK hR => ?_)
  refine V_aload_n dJx4a65c_add_9ea2d_0 rfl ?_
  refine V_dup dJx4a65c_add_9ea2d_1 rfl ?_
  refine V_getf (C0 := RJx4a65c) (T := TJx4a65c) (N := 3) (ci := 0) (fs := [.int (zI m), .ref (en 5), .int (zI 0)]) 0 0 iwJx4a65c (by decide) w59 (Or.inr w60) rfl rfl rfl dJx4a65c_add_9ea2d_2 ?_
  refine V_iconst dJx4a65c_add_9ea2d_5 ?_
  refine V_iadd dJx4a65c_add_9ea2d_6 ?_
  refine V_putf (C0 := RJx4a65c) (T := TJx4a65c) (N := 3) (ci := 0) (fs := [.int (zI m), .ref (en 5), .int (zI 0)]) 0 0 iwJx4a65c (by decide) w59 (Or.inr w60) tyJx4a65c tyJx4a65c_ok nmJx4a65c rfl rfl rfl (Nat.le_of_ble_eq_true rfl) rfl rfl dJx4a65c_add_9ea2d_7 ?_
  show V K sJx4a65c_add_9ea2d 0 0 [(a, .inr (0, [.int (zI (m + 1)), .ref (en 5), .int (zI 0)])), (b, .inr (ci, vs))] [some (.ref a), some (.ref b)] [] 10
  refine V_aload_n dJx4a65c_add_9ea2d_10 rfl ?_
  refine V_aload_n dJx4a65c_add_9ea2d_11 rfl ?_
  refine V_aload_n dJx4a65c_add_9ea2d_12 rfl ?_
  refine V_getf (C0 := RJx4a65c) (T := TJx4a65c) (N := 3) (ci := 0) (fs := [.int (zI (m + 1)), .ref (en 5), .int (zI 0)]) 0 1 iwJx4a65c (by decide) w56 (Or.inl rfl) rfl rfl rfl dJx4a65c_add_9ea2d_13 ?_
  refine V_aload_n dJx4a65c_add_9ea2d_16 rfl ?_
  refine V_getf (C0 := RJx4a65c) (T := TJx4a65c) (N := 3) (ci := 0) (fs := [.int (zI (m + 1)), .ref (en 5), .int (zI 0)]) 0 2 iwJx4a65c (by decide) w57 (Or.inl rfl) rfl rfl rfl dJx4a65c_add_9ea2d_17 ?_
  refine V_callVF (As := [.ref b, .ref (en 5), .int (zI 0)]) (b := a) (q0 := 0) (ci := 0) (fs := [.int (zI (m + 1)), .ref (en 5), .int (zI 0)]) (T := TJx4a65c) (N := 3) rfl rfl hK (k_add3E en a (m + 1) b ci vs r hc hca) mokJx4a65c_add_72be8 w645 w647 wps0_14 ⟨Nat.le_of_ble_eq_true rfl, Nat.le_of_ble_eq_true rfl⟩ rfl (Nat.le_of_ble_eq_true rfl) ⟨Nat.le_of_ble_eq_true rfl, Nat.le_of_ble_eq_true rfl⟩ dJx4a65c_add_9ea2d_20 (fun v w h => ?_)
  obtain ⟨ad, rfl, rfl⟩ := h
  show V K sJx4a65c_add_9ea2d 1 10 [(a, .inr (0, [.int (zI (m + 1)), .ref ad, .int (zI (0 + 1))])), (ad, oE 3 10 (fup (fun _ => none) 0 (some b))), (b, .inr (ci, vs))] [some (.ref a), some (.ref b)] [] 23
  refine V_iconst dJx4a65c_add_9ea2d_23 ?_
  show V K sJx4a65c_add_9ea2d 1 10 _ _ [.int (zI (bz true))] 24
  refine V_zret hR rfl (Nat.le_of_ble_eq_true rfl) (Nat.le_of_ble_eq_true rfl) dJx4a65c_add_9ea2d_24 ?_
  exact ⟨ad, rfl, rfl⟩
set_option maxRecDepth 100000 in
set_option maxHeartbeats 4000000 in
theorem k_addA (en : Nat → Nat) (a ad : Nat) (m n : Int) (f : Int → Option Nat) (hn : 0 ≤ n ∧ n < 10) (b : Nat) (ci : Nat) (vs : List Value) (r : vw_C) (hc : vwCl[ci]? = some r) (hca : Cond.castable r.1 "java/lang/Object" ∈ WN) : MC (EN en) yJx4a65c_add_9ea2d sJx4a65c_add_9ea2d [.ref a, .ref b] [(a, .inr (0, [.int (zI m), .ref ad, .int (zI n)])), (ad, oE 3 10 f), (b, .inr (ci, vs))] (fun v w => v = some (.int (zI (bz true))) ∧ w = [(a, .inr (0, [.int (zI (m + 1)), .ref ad, .int (zI (n + 1))])), (ad, oE 3 10 (fup f n (some b))), (b, .inr (ci, vs))]) := by
  refine MC.of (EN.stb en) [some (.ref a), some (.ref b)] 0 rfl rfl rfl (by simp [Value.category]) (Nat.le_of_ble_eq_true rfl) (fun K hK hR => ?_)
  refine V_aload_n dJx4a65c_add_9ea2d_0 rfl ?_
  refine V_dup dJx4a65c_add_9ea2d_1 rfl ?_
  refine V_getf (C0 := RJx4a65c) (T := TJx4a65c) (N := 3) (ci := 0) (fs := [.int (zI m), .ref ad, .int (zI n)]) 0 0 iwJx4a65c (by decide) w59 (Or.inr w60) rfl rfl rfl dJx4a65c_add_9ea2d_2 ?_
  refine V_iconst dJx4a65c_add_9ea2d_5 ?_
  refine V_iadd dJx4a65c_add_9ea2d_6 ?_
  refine V_putf (C0 := RJx4a65c) (T := TJx4a65c) (N := 3) (ci := 0) (fs := [.int (zI m), .ref ad, .int (zI n)]) 0 0 iwJx4a65c (by decide) w59 (Or.inr w60) tyJx4a65c tyJx4a65c_ok nmJx4a65c rfl rfl rfl (Nat.le_of_ble_eq_true rfl) rfl rfl dJx4a65c_add_9ea2d_7 ?_
  show V K sJx4a65c_add_9ea2d 0 0 [(a, .inr (0, [.int (zI (m + 1)), .ref ad, .int (zI n)])), (ad, oE 3 10 f), (b, .inr (ci, vs))] [some (.ref a), some (.ref b)] [] 10
  refine V_aload_n dJx4a65c_add_9ea2d_10 rfl ?_
  refine V_aload_n dJx4a65c_add_9ea2d_11 rfl ?_
  refine V_aload_n dJx4a65c_add_9ea2d_12 rfl ?_
  refine V_getf (C0 := RJx4a65c) (T := TJx4a65c) (N := 3) (ci := 0) (fs := [.int (zI (m + 1)), .ref ad, .int (zI n)]) 0 1 iwJx4a65c (by decide) w56 (Or.inl rfl) rfl rfl rfl dJx4a65c_add_9ea2d_13 ?_
  refine V_aload_n dJx4a65c_add_9ea2d_16 rfl ?_
  refine V_getf (C0 := RJx4a65c) (T := TJx4a65c) (N := 3) (ci := 0) (fs := [.int (zI (m + 1)), .ref ad, .int (zI n)]) 0 2 iwJx4a65c (by decide) w57 (Or.inl rfl) rfl rfl rfl dJx4a65c_add_9ea2d_17 ?_
  refine V_callVF (As := [.ref b, .ref ad, .int (zI n)]) (b := a) (q0 := 0) (ci := 0) (fs := [.int (zI (m + 1)), .ref ad, .int (zI n)]) (T := TJx4a65c) (N := 3) rfl rfl hK (k_add3A en a ad (m + 1) n f hn b ci vs r hc hca) mokJx4a65c_add_72be8 w645 w647 wps0_14 ⟨Nat.le_of_ble_eq_true rfl, Nat.le_of_ble_eq_true rfl⟩ rfl (Nat.le_of_ble_eq_true rfl) ⟨Nat.le_of_ble_eq_true rfl, Nat.le_of_ble_eq_true rfl⟩ dJx4a65c_add_9ea2d_20 (fun v w h => ?_)
  obtain ⟨rfl, rfl⟩ := h
  show V K sJx4a65c_add_9ea2d 1 10 [(a, .inr (0, [.int (zI (m + 1)), .ref ad, .int (zI (n + 1))])), (ad, oE 3 10 (fup f n (some b))), (b, .inr (ci, vs))] [some (.ref a), some (.ref b)] [] 23
  refine V_iconst dJx4a65c_add_9ea2d_23 ?_
  show V K sJx4a65c_add_9ea2d 1 10 _ _ [.int (zI (bz true))] 24
  refine V_zret hR rfl (Nat.le_of_ble_eq_true rfl) (Nat.le_of_ble_eq_true rfl) dJx4a65c_add_9ea2d_24 ?_
  exact ⟨rfl, rfl⟩
set_option maxRecDepth 100000 in
set_option maxHeartbeats 4000000 in
theorem k_clearE (en : Nat → Nat) (a : Nat) (m : Int) : MC (EN en) yJx4a65c_clear_da8c8 sJx4a65c_clear_da8c8 [.ref a] [(a, .inr (0, [.int (zI m), .ref (en 5), .int (zI 0)]))] (fun v w => v = none ∧ w = [(a, .inr (0, [.int (zI (m + 1)), .ref (en 5), .int (zI 0)]))]) := by
  refine MC.of (EN.stb en) [some (.ref a), none, none, none] 3 rfl rfl rfl (by simp [Value.category]) (Nat.le_of_ble_eq_true rfl) (fun K hK hR => ?_)
  refine V_aload_n dJx4a65c_clear_da8c8_0 rfl ?_
  refine V_dup dJx4a65c_clear_da8c8_1 rfl ?_
  refine V_getf (C0 := RJx4a65c) (T := TJx4a65c) (N := 3) (ci := 0) (fs := [.int (zI m), .ref (en 5), .int (zI 0)]) 0 0 iwJx4a65c (by decide) w59 (Or.inr w60) rfl rfl rfl dJx4a65c_clear_da8c8_2 ?_
  refine V_iconst dJx4a65c_clear_da8c8_5 ?_
  refine V_iadd dJx4a65c_clear_da8c8_6 ?_
  refine V_putf (C0 := RJx4a65c) (T := TJx4a65c) (N := 3) (ci := 0) (fs := [.int (zI m), .ref (en 5), .int (zI 0)]) 0 0 iwJx4a65c (by decide) w59 (Or.inr w60) tyJx4a65c tyJx4a65c_ok nmJx4a65c rfl rfl rfl (Nat.le_of_ble_eq_true rfl) rfl rfl dJx4a65c_clear_da8c8_7 ?_
  show V K sJx4a65c_clear_da8c8 0 0 [(a, .inr (0, [.int (zI (m + 1)), .ref (en 5), .int (zI 0)]))] [some (.ref a), none, none, none] [] 10
  refine V_aload_n dJx4a65c_clear_da8c8_10 rfl ?_
  refine V_getf (C0 := RJx4a65c) (T := TJx4a65c) (N := 3) (ci := 0) (fs := [.int (zI (m + 1)), .ref (en 5), .int (zI 0)]) 0 1 iwJx4a65c (by decide) w56 (Or.inl rfl) rfl rfl rfl dJx4a65c_clear_da8c8_11 ?_
  refine V_astore_n (L' := [some (.ref a), some (.ref (en 5)), none, none]) dJx4a65c_clear_da8c8_14 (by decide) rfl ?_
  refine V_aload_n dJx4a65c_clear_da8c8_15 rfl ?_
  refine V_getf (C0 := RJx4a65c) (T := TJx4a65c) (N := 3) (ci := 0) (fs := [.int (zI (m + 1)), .ref (en 5), .int (zI 0)]) 0 2 iwJx4a65c (by decide) w57 (Or.inl rfl) rfl rfl rfl dJx4a65c_clear_da8c8_16 ?_
  refine V_istore_n (L' := [some (.ref a), some (.ref (en 5)), some (.int (zI 0)), none]) dJx4a65c_clear_da8c8_19 (by decide) rfl ?_
  refine V_aload_n dJx4a65c_clear_da8c8_20 rfl ?_
  refine V_iconst dJx4a65c_clear_da8c8_21 ?_
  refine V_dup_x1 dJx4a65c_clear_da8c8_22 rfl rfl ?_
  refine V_putf (C0 := RJx4a65c) (T := TJx4a65c) (N := 3) (ci := 0) (fs := [.int (zI (m + 1)), .ref (en 5), .int (zI 0)]) 0 2 iwJx4a65c (by decide) w57 (Or.inl rfl) tyJx4a65c tyJx4a65c_ok nmJx4a65c rfl rfl rfl (Nat.le_of_ble_eq_true rfl) rfl rfl dJx4a65c_clear_da8c8_23 ?_
  show V K sJx4a65c_clear_da8c8 0 0 [(a, .inr (0, [.int (zI (m + 1)), .ref (en 5), .int (zI 0)]))] [some (.ref a), some (.ref (en 5)), some (.int (zI 0)), none] [.int (zI 0)] 26
  refine V_istore_n (L' := [some (.ref a), some (.ref (en 5)), some (.int (zI 0)), some (.int (zI 0))]) dJx4a65c_clear_da8c8_26 (by decide) rfl ?_
  refine V_iload_n dJx4a65c_clear_da8c8_27 rfl ?_
  refine V_iload_n dJx4a65c_clear_da8c8_28 rfl ?_
  refine V_icmp_ge (tgt := 42) dJx4a65c_clear_da8c8_29 (by decide) ⟨⟨by omega, by omega⟩, ⟨by omega, by omega⟩⟩ (fun _ => ?_) (fun h => absurd h (by decide))
  refine V_vret hR rfl (Nat.le_of_ble_eq_true rfl) (Nat.le_of_ble_eq_true rfl) dJx4a65c_clear_da8c8_42 ?_
  exact ⟨rfl, rfl⟩
set_option maxRecDepth 100000 in
set_option maxHeartbeats 4000000 in
theorem k_clearA (en : Nat → Nat) (a ad : Nat) (m n : Int) (f : Int → Option Nat) (hn : 0 ≤ n ∧ n ≤ 10) : MC (EN en) yJx4a65c_clear_da8c8 sJx4a65c_clear_da8c8 [.ref a] [(a, .inr (0, [.int (zI m), .ref ad, .int (zI n)])), (ad, oE 3 10 f)] (fun v w => v = none ∧ w = [(a, .inr (0, [.int (zI (m + 1)), .ref ad, .int (zI 0)])), (ad, oE 3 10 (fun i => if 0 ≤ i ∧ i < n then none else f i))]) := by
  refine MC.of (EN.stb en) [some (.ref a), none, none, none] 3 rfl rfl rfl (by simp [Value.category]) (Nat.le_of_ble_eq_true rfl) (fun K hK hR => ?_)
  have loop : ∀ (n0 : Nat) (j : Int), (n - j).toNat = n0 → 0 ≤ j ∧ j ≤ n → V K sJx4a65c_clear_da8c8 0 0 [(a, .inr (0, [.int (zI (m + 1)), .ref ad, .int (zI 0)])), (ad, oE 3 10 (fun i => if 0 ≤ i ∧ i < j then none else f i))] [some (.ref a), some (.ref ad), some (.int (zI n)), some (.int (zI j))] [] 27 := by
    intro n0
    induction n0 using Nat.strongRecOn with
    | _ n0 ih =>
    intro j hm hj
    refine V_iload_n dJx4a65c_clear_da8c8_27 rfl ?_
    refine V_iload_n dJx4a65c_clear_da8c8_28 rfl ?_
    refine V_icmp_ge (tgt := 42) dJx4a65c_clear_da8c8_29 (by decide) ⟨⟨by omega, by omega⟩, ⟨by omega, by omega⟩⟩ (fun c => ?_) (fun c => ?_)
    · refine V_vret hR rfl (Nat.le_of_ble_eq_true rfl) (Nat.le_of_ble_eq_true rfl) dJx4a65c_clear_da8c8_42 ?_
      have e : j = n := by omega
      subst e
      exact ⟨rfl, rfl⟩
    · refine V_aload_n dJx4a65c_clear_da8c8_32 rfl ?_
      refine V_iload_n dJx4a65c_clear_da8c8_33 rfl ?_
      refine V_null dJx4a65c_clear_da8c8_34 ?_
      refine V_aastN (N := 10) 1 rfl ⟨by omega, by omega⟩ (by decide) dJx4a65c_clear_da8c8_35 ?_
      have e : fup (fun i => if 0 ≤ i ∧ i < j then none else f i) j none = (fun i => if 0 ≤ i ∧ i < j + 1 then none else f i) := by
        funext i
        show (if i = j then none else (if 0 ≤ i ∧ i < j then none else f i)) = (if 0 ≤ i ∧ i < j + 1 then none else f i)
        by_cases h1 : i = j
        · rw [if_pos h1, if_pos (by omega)]
        · rw [if_neg h1]
          by_cases h2 : 0 ≤ i ∧ i < j
          · rw [if_pos h2, if_pos (by omega)]
          · rw [if_neg h2, if_neg (by omega)]
      show V K sJx4a65c_clear_da8c8 0 0 [(a, .inr (0, [.int (zI (m + 1)), .ref ad, .int (zI 0)])), (ad, oE 3 10 (fup (fun i => if 0 ≤ i ∧ i < j then none else f i) j none))] [some (.ref a), some (.ref ad), some (.int (zI n)), some (.int (zI j))] [] 36
      rw [e]
      refine V_iinc (L' := [some (.ref a), some (.ref ad), some (.int (zI n)), some (.int (zI (j + 1)))]) dJx4a65c_clear_da8c8_36 (by decide) rfl rfl ?_
      refine V_goto (tgt := 27) dJx4a65c_clear_da8c8_39 (by decide) ?_
      exact ih _ (by omega) (j + 1) rfl ⟨by omega, by omega⟩
  refine V_aload_n dJx4a65c_clear_da8c8_0 rfl ?_
  refine V_dup dJx4a65c_clear_da8c8_1 rfl ?_
  refine V_getf (C0 := RJx4a65c) (T := TJx4a65c) (N := 3) (ci := 0) (fs := [.int (zI m), .ref ad, .int (zI n)]) 0 0 iwJx4a65c (by decide) w59 (Or.inr w60) rfl rfl rfl dJx4a65c_clear_da8c8_2 ?_
  refine V_iconst dJx4a65c_clear_da8c8_5 ?_
  refine V_iadd dJx4a65c_clear_da8c8_6 ?_
  refine V_putf (C0 := RJx4a65c) (T := TJx4a65c) (N := 3) (ci := 0) (fs := [.int (zI m), .ref ad, .int (zI n)]) 0 0 iwJx4a65c (by decide) w59 (Or.inr w60) tyJx4a65c tyJx4a65c_ok nmJx4a65c rfl rfl rfl (Nat.le_of_ble_eq_true rfl) rfl rfl dJx4a65c_clear_da8c8_7 ?_
  show V K sJx4a65c_clear_da8c8 0 0 [(a, .inr (0, [.int (zI (m + 1)), .ref ad, .int (zI n)])), (ad, oE 3 10 f)] [some (.ref a), none, none, none] [] 10
  refine V_aload_n dJx4a65c_clear_da8c8_10 rfl ?_
  refine V_getf (C0 := RJx4a65c) (T := TJx4a65c) (N := 3) (ci := 0) (fs := [.int (zI (m + 1)), .ref ad, .int (zI n)]) 0 1 iwJx4a65c (by decide) w56 (Or.inl rfl) rfl rfl rfl dJx4a65c_clear_da8c8_11 ?_
  refine V_astore_n (L' := [some (.ref a), some (.ref ad), none, none]) dJx4a65c_clear_da8c8_14 (by decide) rfl ?_
  refine V_aload_n dJx4a65c_clear_da8c8_15 rfl ?_
  refine V_getf (C0 := RJx4a65c) (T := TJx4a65c) (N := 3) (ci := 0) (fs := [.int (zI (m + 1)), .ref ad, .int (zI n)]) 0 2 iwJx4a65c (by decide) w57 (Or.inl rfl) rfl rfl rfl dJx4a65c_clear_da8c8_16 ?_
  refine V_istore_n (L' := [some (.ref a), some (.ref ad), some (.int (zI n)), none]) dJx4a65c_clear_da8c8_19 (by decide) rfl ?_
  refine V_aload_n dJx4a65c_clear_da8c8_20 rfl ?_
  refine V_iconst dJx4a65c_clear_da8c8_21 ?_
  refine V_dup_x1 dJx4a65c_clear_da8c8_22 rfl rfl ?_
  refine V_putf (C0 := RJx4a65c) (T := TJx4a65c) (N := 3) (ci := 0) (fs := [.int (zI (m + 1)), .ref ad, .int (zI n)]) 0 2 iwJx4a65c (by decide) w57 (Or.inl rfl) tyJx4a65c tyJx4a65c_ok nmJx4a65c rfl rfl rfl (Nat.le_of_ble_eq_true rfl) rfl rfl dJx4a65c_clear_da8c8_23 ?_
  show V K sJx4a65c_clear_da8c8 0 0 [(a, .inr (0, [.int (zI (m + 1)), .ref ad, .int (zI 0)])), (ad, oE 3 10 f)] [some (.ref a), some (.ref ad), some (.int (zI n)), none] [.int (zI 0)] 26
  refine V_istore_n (L' := [some (.ref a), some (.ref ad), some (.int (zI n)), some (.int (zI 0))]) dJx4a65c_clear_da8c8_26 (by decide) rfl ?_
  have e0 : f = (fun i => if 0 ≤ i ∧ i < 0 then none else f i) := by
    funext i
    rw [if_neg (by omega)]
  have h0 := loop _ 0 rfl ⟨by omega, by omega⟩
  rw [← e0] at h0
  exact h0

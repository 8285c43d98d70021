/-! the class: what holds of its state; lists; the program -/
/-- the world κ stands for the program P -/
def CI (P κ : St) : Prop := PR P κ ∧ κ 49 0 = pt P ∧ ∀ i : Int, 0 ≤ i → i ≤ 4 → 0 < lsz κ i → κ 80 i ≠ 0
theorem CI.up {P κ : St} (h : CI P κ) {k : Nat} {i v : Int} (hk : (16 ≤ k ∧ k ≠ 49 ∧ k ≠ 80) ∨ k = 1) : CI P (up κ k i v) := by
  refine ⟨h.1.up (by omega), ?_, fun j h0 h1 h2 => ?_⟩
  · rw [up_ne (by omega)]; exact h.2.1
  · rw [up_ne (by omega)]
    refine h.2.2 j h0 h1 ?_
    unfold lsz at h2 ⊢
    rw [up_ne (by omega), up_ne (by omega)] at h2
    exact h2
theorem CI.w4 (κ : St) : ((0 : Int) ≤ 4 ∧ (4 : Int) ≤ 4) ∧ ((4 : Int) = 4 ∨ 4 < κ 0 2) := ⟨⟨by omega, by omega⟩, Or.inl rfl⟩
theorem CI.n2 {P κ : St} (h : CI P κ) : κ 0 2 = P 0 2 := congrFun (h.1 0 (by decide) (by decide)) 2
theorem CI.wn {P κ : St} (h : CI P κ) (hM : MI P) {i : Int} (hi : 0 ≤ i ∧ i < P 0 2) : (0 ≤ i ∧ i ≤ 4) ∧ (i = 4 ∨ i < κ 0 2) := by
  have := hM.2.2.1
  have := h.n2
  exact ⟨⟨by omega, by omega⟩, Or.inr (by omega)⟩
theorem CI.sm {P κ : St} (h : CI P κ) (hM : MI P) {i : Int} (hi : 0 ≤ i ∧ i < P 0 2) : (0 ≤ i ∧ i < 4) ∧ i < κ 0 2 := by
  have := hM.2.2.1
  have := h.n2
  exact ⟨⟨by omega, by omega⟩, by omega⟩
theorem MI.r4 {P : St} (hM : MI P) {i : Int} (hi : 0 ≤ i ∧ i < P 0 2) : 0 ≤ P 4 i ∧ P 4 i ≤ 4 := (hM.2.2.2.2.2.1 i hi.1 (by have := hM.2.2.1; omega)).2.1
theorem CI.rd {P κ : St} (h : CI P κ) (hM : MI P) {i j : Int} (hi : 0 ≤ i ∧ i < P 0 2) (hj : 0 ≤ j ∧ j < P 4 i) : (0 ≤ i ∧ i < 4) ∧ (0 ≤ j ∧ j < 4) ∧ i < κ 0 2 ∧ j < κ 4 i := by
  have := hM.2.2.1
  have := h.n2
  have h3 : κ 4 i = P 4 i := congrFun (h.1 4 (by decide) (by decide)) i
  have := hM.r4 hi
  exact ⟨⟨by omega, by omega⟩, ⟨by omega, by omega⟩, by omega, by omega⟩
theorem CI.l4 {P κ : St} (h : CI P κ) : lsz κ 4 = P 0 2 := h.n2
theorem CI.lr {P κ : St} (h : CI P κ) {i : Int} (hi : i < 4) : lsz κ i = P 4 i := by
  unfold lsz
  rw [if_neg (by omega)]
  exact congrFun (h.1 4 (by decide) (by decide)) i
theorem CI.a4 {P κ : St} (h : CI P κ) (hN : 0 < P 0 2) : κ 80 4 ≠ 0 := h.2.2 4 (by omega) (by omega) (by rw [h.l4]; exact hN)
theorem CI.ar {P κ : St} (h : CI P κ) (hM : MI P) {i : Int} (hi : 0 ≤ i ∧ i < P 0 2) (hN : 0 < P 4 i) : κ 80 i ≠ 0 := h.2.2 i (by omega) (by have := hM.2.2.1; omega) (by rw [h.lr (by have := hM.2.2.1; omega)]; exact hN)
theorem CI.e4 {P κ : St} (h : CI P κ) {c : Nat → Nat} {j : Int} (hj : 0 ≤ j ∧ j < P 0 2) : lA c κ 4 j = some (c (33 + 8 * Int.toNat j)) := by
  unfold lA
  rw [if_pos (by rw [h.l4]; exact hj), if_pos rfl]
theorem CI.er {P κ : St} (h : CI P κ) {c : Nat → Nat} {i j : Int} (hi : i < 4) (hj : 0 ≤ j ∧ j < P 4 i) : lA c κ i j = some (c (37 + 8 * Int.toNat i + Int.toNat j)) := by
  unfold lA
  rw [if_pos (by rw [h.lr hi]; exact hj), if_neg (by omega)]
theorem V_refT {K : KT} {S : SI} {k n : Nat} {ws : vWd} {L : List (Option Value)} {st : List Value} {pc : Nat} {x y : Nat} (h : x = y) (kk : V K S k n ws L (.ref y :: st) pc) : V K S k n ws L (.ref x :: st) pc := by
  subst h
  exact kk
theorem MI.rd {P : St} (hM : MI P) {i j : Int} (hi : 0 ≤ i ∧ i < P 0 2) (hj : 0 ≤ j ∧ j < P 4 i) : (0 ≤ P 5 (4 * i + j) ∧ P 5 (4 * i + j) < P 0 2) ∧ (1 ≤ P 6 (4 * i + j) ∧ P 6 (4 * i + j) ≤ 9) ∧ (0 ≤ P 7 (4 * i + j) ∧ P 7 (4 * i + j) ≤ 3) ∧ (-3 ≤ P 8 (4 * i + j) ∧ P 8 (4 * i + j) ≤ 3) := hM.2.2.2.2.2.2 i j hi.1 (by have := hM.2.2.1; omega) hj.1 hj.2
theorem MI.of10 {P : St} (hM : MI P) {i : Int} (hi : 0 ≤ i ∧ i < P 0 2) : 0 ≤ P 10 i ∧ P 10 i ≤ 30 := (hM.2.2.2.2.2.1 i hi.1 (by have := hM.2.2.1; omega)).2.2.2.1
set_option maxRecDepth 100000 in
set_option maxHeartbeats 4000000 in
theorem k_size4 (en : Nat → Nat) (c : Nat → Nat) (κ : St) (P : St) (hp : MI P ∧ CI P κ) : MC (EN en) yJx4a65c_size_8abf5 sJx4a65c_size_8abf5 [.ref (c (35 + 8 * Int.toNat 4))] (fm (cO en c κ)) (fun v w => v = some (.int (zI (P 0 2))) ∧ w = fm (cO en c κ)) := by
  refine MC.of (EN.stb en) [some (.ref (c (35 + 8 * Int.toNat 4)))] 0 rfl rfl rfl (by simp [Value.category]) (Nat.le_of_ble_eq_true rfl) (fun K hK hR => ?_)
  obtain ⟨hM, hC⟩ := hp
  have hN4 := hM.2.2.1
  refine V_aload_n dJx4a65c_size_8abf5_0 rfl ?_
  refine VO_getf (C0 := RJx4a65c) (T := TJx4a65c) (N := 3) (ci := 0) (fs := alF en c κ 4) (35 + 8 * Int.toNat 4) 2 iwJx4a65c (by decide) w57 (Or.inl rfl) rfl (at_al (CI.w4 _)) rfl dJx4a65c_size_8abf5_1 ?_
  refine V_eqT (y := zI (P 0 2)) (congrArg zI (hC).l4) ?_
  refine V_iret hR rfl (Nat.le_of_ble_eq_true rfl) (Nat.le_of_ble_eq_true rfl) dJx4a65c_size_8abf5_4 ?_
  exact ⟨rfl, rfl⟩
set_option maxRecDepth 100000 in
set_option maxHeartbeats 4000000 in
theorem k_sizer (en : Nat → Nat) (c : Nat → Nat) (κ : St) (i : Int) (P : St) (hp : MI P ∧ CI P κ ∧ 0 ≤ i ∧ i < P 0 2) : MC (EN en) yJx4a65c_size_8abf5 sJx4a65c_size_8abf5 [.ref (c (35 + 8 * Int.toNat i))] (fm (cO en c κ)) (fun v w => v = some (.int (zI (P 4 i))) ∧ w = fm (cO en c κ)) := by
  refine MC.of (EN.stb en) [some (.ref (c (35 + 8 * Int.toNat i)))] 0 rfl rfl rfl (by simp [Value.category]) (Nat.le_of_ble_eq_true rfl) (fun K hK hR => ?_)
  obtain ⟨hM, hC, hp⟩ := hp
  have hN4 := hM.2.2.1
  refine V_aload_n dJx4a65c_size_8abf5_0 rfl ?_
  refine VO_getf (C0 := RJx4a65c) (T := TJx4a65c) (N := 3) (ci := 0) (fs := alF en c κ i) (35 + 8 * Int.toNat i) 2 iwJx4a65c (by decide) w57 (Or.inl rfl) rfl (at_al ((hC).wn hM (by omega))) rfl dJx4a65c_size_8abf5_1 ?_
  refine V_eqT (y := zI (P 4 i)) (congrArg zI ((hC).lr (by omega))) ?_
  refine V_iret hR rfl (Nat.le_of_ble_eq_true rfl) (Nat.le_of_ble_eq_true rfl) dJx4a65c_size_8abf5_4 ?_
  exact ⟨rfl, rfl⟩
set_option maxRecDepth 100000 in
set_option maxHeartbeats 4000000 in
theorem k_ed4 (en : Nat → Nat) (c : Nat → Nat) (κ : St) (j : Int) (P : St) (hp : MI P ∧ CI P κ ∧ 0 ≤ j ∧ j < P 0 2) : MC (EN en) yJx4a65c_elementData_915e3 sJx4a65c_elementData_915e3 [.ref (c (35 + 8 * Int.toNat 4)), .int (zI j)] (fm (cO en c κ)) (fun v w => v = some (.ref (c (33 + 8 * Int.toNat j))) ∧ w = fm (cO en c κ)) := by
  refine MC.of (EN.stb en) [some (.ref (c (35 + 8 * Int.toNat 4))), some (.int (zI j))] 0 rfl rfl rfl (by simp [Value.category]) (Nat.le_of_ble_eq_true rfl) (fun K hK hR => ?_)
  obtain ⟨hM, hC, hp⟩ := hp
  have hN4 := hM.2.2.1
  refine V_aload_n dJx4a65c_elementData_915e3_0 rfl ?_
  refine VO_getf (C0 := RJx4a65c) (T := TJx4a65c) (N := 3) (ci := 0) (fs := alF en c κ 4) (35 + 8 * Int.toNat 4) 1 iwJx4a65c (by decide) w56 (Or.inl rfl) rfl (at_al (CI.w4 _)) rfl dJx4a65c_elementData_915e3_1 ?_
  refine V_refT (y := c (36 + 8 * Int.toNat 4)) (if_neg (hC.a4 (by omega))) ?_
  refine V_iload_n dJx4a65c_elementData_915e3_4 rfl ?_
  refine VO_aald (N := 10) (36 + 8 * Int.toNat 4) (at_la (CI.w4 _) (hC.a4 (by omega))) ⟨by omega, by omega⟩ (by decide) (hC.e4 (by omega)) dJx4a65c_elementData_915e3_5 ?_
  refine V_aret hR rfl (Or.inl ⟨_, rfl⟩) (Or.inr ⟨_, rfl⟩) (Nat.le_of_ble_eq_true rfl) (Nat.le_of_ble_eq_true rfl) dJx4a65c_elementData_915e3_6 ?_
  exact ⟨rfl, rfl⟩
set_option maxRecDepth 100000 in
set_option maxHeartbeats 4000000 in
theorem k_edr (en : Nat → Nat) (c : Nat → Nat) (κ : St) (i : Int) (j : Int) (P : St) (hp : MI P ∧ CI P κ ∧ (0 ≤ i ∧ i < P 0 2) ∧ (0 ≤ j ∧ j < P 4 i)) : MC (EN en) yJx4a65c_elementData_915e3 sJx4a65c_elementData_915e3 [.ref (c (35 + 8 * Int.toNat i)), .int (zI j)] (fm (cO en c κ)) (fun v w => v = some (.ref (c (37 + 8 * Int.toNat i + Int.toNat j))) ∧ w = fm (cO en c κ)) := by
  refine MC.of (EN.stb en) [some (.ref (c (35 + 8 * Int.toNat i))), some (.int (zI j))] 0 rfl rfl rfl (by simp [Value.category]) (Nat.le_of_ble_eq_true rfl) (fun K hK hR => ?_)
  obtain ⟨hM, hC, hp⟩ := hp
  have hN4 := hM.2.2.1
  have hr4 := hM.r4 hp.1
  refine V_aload_n dJx4a65c_elementData_915e3_0 rfl ?_
  refine VO_getf (C0 := RJx4a65c) (T := TJx4a65c) (N := 3) (ci := 0) (fs := alF en c κ i) (35 + 8 * Int.toNat i) 1 iwJx4a65c (by decide) w56 (Or.inl rfl) rfl (at_al ((hC).wn hM (by omega))) rfl dJx4a65c_elementData_915e3_1 ?_
  refine V_refT (y := c (36 + 8 * Int.toNat i)) (if_neg (hC.ar hM (by omega) (by omega))) ?_
  refine V_iload_n dJx4a65c_elementData_915e3_4 rfl ?_
  refine VO_aald (N := 10) (36 + 8 * Int.toNat i) (at_la (hC.wn hM (by omega)) (hC.ar hM (by omega) (by omega))) ⟨by omega, by omega⟩ (by decide) (hC.er (by omega) (by omega)) dJx4a65c_elementData_915e3_5 ?_
  refine V_aret hR rfl (Or.inl ⟨_, rfl⟩) (Or.inr ⟨_, rfl⟩) (Nat.le_of_ble_eq_true rfl) (Nat.le_of_ble_eq_true rfl) dJx4a65c_elementData_915e3_6 ?_
  exact ⟨rfl, rfl⟩
set_option maxRecDepth 100000 in
set_option maxHeartbeats 4000000 in
theorem k_get4 (en : Nat → Nat) (c : Nat → Nat) (κ : St) (j : Int) (P : St) (hp : MI P ∧ CI P κ ∧ 0 ≤ j ∧ j < P 0 2) : MC (EN en) yJx4a65c_get_915e3 sJx4a65c_get_915e3 [.ref (c (35 + 8 * Int.toNat 4)), .int (zI j)] (fm (cO en c κ)) (fun v w => v = some (.ref (c (33 + 8 * Int.toNat j))) ∧ w = fm (cO en c κ)) := by
  refine MC.of (EN.stb en) [some (.ref (c (35 + 8 * Int.toNat 4))), some (.int (zI j))] 0 rfl rfl rfl (by simp [Value.category]) (Nat.le_of_ble_eq_true rfl) (fun K hK hR => ?_)
  obtain ⟨hM, hC, hp⟩ := hp
  have hN4 := hM.2.2.1
  refine V_iload_n dJx4a65c_get_915e3_0 rfl ?_
  refine V_aload_n dJx4a65c_get_915e3_1 rfl ?_
  refine VO_getf (C0 := RJx4a65c) (T := TJx4a65c) (N := 3) (ci := 0) (fs := alF en c κ 4) (35 + 8 * Int.toNat 4) 2 iwJx4a65c (by decide) w57 (Or.inl rfl) rfl (at_al (CI.w4 _)) rfl dJx4a65c_get_915e3_2 ?_
  refine V_eqT (y := zI (P 0 2)) (congrArg zI (hC).l4) ?_
  refine V_callSE (As := [.int (zI j), .int (zI (P 0 2))]) hK (k_chk2 en j (P 0 2) (⟨⟨by omega, by omega⟩, by omega⟩)) mokJ15_checkIndex_7cf53 w277 w278 ⟨Nat.le_of_ble_eq_true rfl, Nat.le_of_ble_eq_true rfl⟩ rfl (Nat.le_of_ble_eq_true rfl) ⟨Nat.le_of_ble_eq_true rfl, Nat.le_of_ble_eq_true rfl⟩ dJx4a65c_get_915e3_5 (fun v w p_1 => ?_)
  obtain ⟨rfl, rfl⟩ := p_1
  show V K sJx4a65c_get_915e3 0 0 (fm (cO en c κ)) [some (.ref (c (35 + 8 * Int.toNat 4))), some (.int (zI j))] [.int (zI j)] 8
  refine V_pop dJx4a65c_get_915e3_8 rfl ?_
  refine V_aload_n dJx4a65c_get_915e3_9 rfl ?_
  refine V_iload_n dJx4a65c_get_915e3_10 rfl ?_
  refine VO_callVF (As := [.int (zI j)]) (b := c (35 + 8 * Int.toNat 4)) (i := 35 + 8 * Int.toNat 4) (ci := 0) (fs := alF en c κ 4) (T := TJx4a65c) (N := 3) (at_al (CI.w4 _)) rfl hK (k_ed4 en c κ j P ⟨hM, hC, by first | assumption | omega | exact ⟨by omega, by omega⟩ | exact ⟨⟨by omega, by omega⟩, by omega, by omega⟩ | exact ⟨⟨by omega, by omega⟩, ⟨by omega, by omega⟩⟩ | exact ⟨⟨by omega, by omega⟩, ⟨by omega, by omega⟩, by omega, by omega⟩⟩) mokJx4a65c_elementData_915e3 w283 w284 w285 ⟨Nat.le_of_ble_eq_true rfl, Nat.le_of_ble_eq_true rfl⟩ rfl (Nat.le_of_ble_eq_true rfl) ⟨Nat.le_of_ble_eq_true rfl, Nat.le_of_ble_eq_true rfl⟩ dJx4a65c_get_915e3_11 (fun v w p_2 => ?_)
  obtain ⟨rfl, rfl⟩ := p_2
  show V K sJx4a65c_get_915e3 0 0 (fm (cO en c κ)) [some (.ref (c (35 + 8 * Int.toNat 4))), some (.int (zI j))] [.ref (c (33 + 8 * Int.toNat j))] 14
  refine V_aret hR rfl (Or.inl ⟨_, rfl⟩) (Or.inr ⟨_, rfl⟩) (Nat.le_of_ble_eq_true rfl) (Nat.le_of_ble_eq_true rfl) dJx4a65c_get_915e3_14 ?_
  exact ⟨rfl, rfl⟩
set_option maxRecDepth 100000 in
set_option maxHeartbeats 4000000 in
theorem k_getr (en : Nat → Nat) (c : Nat → Nat) (κ : St) (i : Int) (j : Int) (P : St) (hp : MI P ∧ CI P κ ∧ (0 ≤ i ∧ i < P 0 2) ∧ (0 ≤ j ∧ j < P 4 i)) : MC (EN en) yJx4a65c_get_915e3 sJx4a65c_get_915e3 [.ref (c (35 + 8 * Int.toNat i)), .int (zI j)] (fm (cO en c κ)) (fun v w => v = some (.ref (c (37 + 8 * Int.toNat i + Int.toNat j))) ∧ w = fm (cO en c κ)) := by
  refine MC.of (EN.stb en) [some (.ref (c (35 + 8 * Int.toNat i))), some (.int (zI j))] 0 rfl rfl rfl (by simp [Value.category]) (Nat.le_of_ble_eq_true rfl) (fun K hK hR => ?_)
  obtain ⟨hM, hC, hp⟩ := hp
  have hN4 := hM.2.2.1
  have hr4 := hM.r4 hp.1
  refine V_iload_n dJx4a65c_get_915e3_0 rfl ?_
  refine V_aload_n dJx4a65c_get_915e3_1 rfl ?_
  refine VO_getf (C0 := RJx4a65c) (T := TJx4a65c) (N := 3) (ci := 0) (fs := alF en c κ i) (35 + 8 * Int.toNat i) 2 iwJx4a65c (by decide) w57 (Or.inl rfl) rfl (at_al ((hC).wn hM (by omega))) rfl dJx4a65c_get_915e3_2 ?_
  refine V_eqT (y := zI (P 4 i)) (congrArg zI ((hC).lr (by omega))) ?_
  refine V_callSE (As := [.int (zI j), .int (zI (P 4 i))]) hK (k_chk2 en j (P 4 i) (⟨⟨by omega, by omega⟩, by omega⟩)) mokJ15_checkIndex_7cf53 w277 w278 ⟨Nat.le_of_ble_eq_true rfl, Nat.le_of_ble_eq_true rfl⟩ rfl (Nat.le_of_ble_eq_true rfl) ⟨Nat.le_of_ble_eq_true rfl, Nat.le_of_ble_eq_true rfl⟩ dJx4a65c_get_915e3_5 (fun v w p_1 => ?_)
  obtain ⟨rfl, rfl⟩ := p_1
  show V K sJx4a65c_get_915e3 0 0 (fm (cO en c κ)) [some (.ref (c (35 + 8 * Int.toNat i))), some (.int (zI j))] [.int (zI j)] 8
  refine V_pop dJx4a65c_get_915e3_8 rfl ?_
  refine V_aload_n dJx4a65c_get_915e3_9 rfl ?_
  refine V_iload_n dJx4a65c_get_915e3_10 rfl ?_
  refine VO_callVF (As := [.int (zI j)]) (b := c (35 + 8 * Int.toNat i)) (i := 35 + 8 * Int.toNat i) (ci := 0) (fs := alF en c κ i) (T := TJx4a65c) (N := 3) (at_al ((hC).wn hM (by omega))) rfl hK (k_edr en c κ i j P ⟨hM, hC, hp⟩) mokJx4a65c_elementData_915e3 w283 w284 w285 ⟨Nat.le_of_ble_eq_true rfl, Nat.le_of_ble_eq_true rfl⟩ rfl (Nat.le_of_ble_eq_true rfl) ⟨Nat.le_of_ble_eq_true rfl, Nat.le_of_ble_eq_true rfl⟩ dJx4a65c_get_915e3_11 (fun v w p_2 => ?_)
  obtain ⟨rfl, rfl⟩ := p_2
  show V K sJx4a65c_get_915e3 0 0 (fm (cO en c κ)) [some (.ref (c (35 + 8 * Int.toNat i))), some (.int (zI j))] [.ref (c (37 + 8 * Int.toNat i + Int.toNat j))] 14
  refine V_aret hR rfl (Or.inl ⟨_, rfl⟩) (Or.inr ⟨_, rfl⟩) (Nat.le_of_ble_eq_true rfl) (Nat.le_of_ble_eq_true rfl) dJx4a65c_get_915e3_14 ?_
  exact ⟨rfl, rfl⟩
set_option maxRecDepth 100000 in
set_option maxHeartbeats 4000000 in
theorem k_w5_firstCell (en : Nat → Nat) (c : Nat → Nat) (κ : St) (x : Int) (P : St) (hp : MI P ∧ CI P κ ∧ -4 ≤ x ∧ x ≤ 5) : MC (EN en) yX5_firstCell sX5_firstCell [.ref (c 1), .int (zI x)] (fm (cO en c κ)) (fun v w => v = some (.int (zI (x * pt P))) ∧ w = fm (cO en c κ)) := by
  refine MC.of (EN.stb en) [some (.ref (c 1)), some (.int (zI x))] 0 rfl rfl rfl (by simp [Value.category]) (Nat.le_of_ble_eq_true rfl) (fun K hK hR => ?_)
  obtain ⟨hM, hC, hp⟩ := hp
  have hN4 := hM.2.2.1
  refine V_iload_n dX5_firstCell_0 rfl ?_
  refine V_aload_n dX5_firstCell_1 rfl ?_
  refine VO_getf (C0 := RX5) (T := TX5) (N := 4) (ci := 4) (fs := prF c κ) 1 3 iwX5 (by decide) w80 (Or.inl rfl) rfl (at_pr) rfl dX5_firstCell_2 ?_
  refine V_eqT (y := zI (pt P)) (congrArg zI (hC).2.1) ?_
  refine V_imul dX5_firstCell_5 ?_
  refine V_iret hR rfl (Nat.le_of_ble_eq_true rfl) (Nat.le_of_ble_eq_true rfl) dX5_firstCell_6 ?_
  exact ⟨rfl, rfl⟩
set_option maxRecDepth 100000 in
set_option maxHeartbeats 4000000 in
theorem k_w5_cells (en : Nat → Nat) (c : Nat → Nat) (κ : St) (P : St) (hp : MI P ∧ CI P κ) : MC (EN en) yX5_cells sX5_cells [.ref (c 1)] (fm (cO en c κ)) (fun v w => v = some (.int (zI (al P))) ∧ w = fm (cO en c κ)) := by
  refine MC.of (EN.stb en) [some (.ref (c 1))] 0 rfl rfl rfl (by simp [Value.category]) (Nat.le_of_ble_eq_true rfl) (fun K hK hR => ?_)
  obtain ⟨hM, hC⟩ := hp
  have hN4 := hM.2.2.1
  refine V_aload_n dX5_cells_0 rfl ?_
  refine V_aload_n dX5_cells_1 rfl ?_
  refine VO_getf (C0 := RX5) (T := TX5) (N := 4) (ci := 4) (fs := prF c κ) 1 0 iwX5 (by decide) w68 (Or.inl rfl) rfl (at_pr) rfl dX5_cells_2 ?_
  show V K sX5_cells 0 0 (fm (cO en c κ)) [some (.ref (c 1))] [.ref (c (35 + 8 * Int.toNat 4)), .ref (c 1)] 5
  refine VO_callVF (As := []) (b := c (35 + 8 * Int.toNat 4)) (i := 35 + 8 * Int.toNat 4) (ci := 0) (fs := alF en c κ 4) (T := TJx4a65c) (N := 3) (at_al (CI.w4 _)) rfl hK (k_size4 en c κ P ⟨hM, hC⟩) mokJx4a65c_size_8abf5 w269 w270 w271 ⟨Nat.le_of_ble_eq_true rfl, Nat.le_of_ble_eq_true rfl⟩ rfl (Nat.le_of_ble_eq_true rfl) ⟨Nat.le_of_ble_eq_true rfl, Nat.le_of_ble_eq_true rfl⟩ dX5_cells_5 (fun v w p_1 => ?_)
  obtain ⟨rfl, rfl⟩ := p_1
  show V K sX5_cells 0 0 (fm (cO en c κ)) [some (.ref (c 1))] [.int (zI (P 0 2)), .ref (c 1)] 8
  refine VO_callVF (As := [.int (zI (P 0 2))]) (b := c 1) (i := 1) (ci := 4) (fs := prF c κ) (T := TX5) (N := 4) (at_pr) rfl hK (k_w5_firstCell en c κ (P 0 2) P ⟨hM, hC, by first | assumption | omega | exact ⟨by omega, by omega⟩ | exact ⟨⟨by omega, by omega⟩, by omega, by omega⟩ | exact ⟨⟨by omega, by omega⟩, ⟨by omega, by omega⟩⟩ | exact ⟨⟨by omega, by omega⟩, ⟨by omega, by omega⟩, by omega, by omega⟩⟩) mokX5_firstCell w304 w305 w306 ⟨Nat.le_of_ble_eq_true rfl, Nat.le_of_ble_eq_true rfl⟩ rfl (Nat.le_of_ble_eq_true rfl) ⟨Nat.le_of_ble_eq_true rfl, Nat.le_of_ble_eq_true rfl⟩ dX5_cells_8 (fun v w p_2 => ?_)
  obtain ⟨rfl, rfl⟩ := p_2
  show V K sX5_cells 0 0 (fm (cO en c κ)) [some (.ref (c 1))] [.int (zI ((P 0 2) * pt P))] 11
  refine V_iret hR rfl (Nat.le_of_ble_eq_true rfl) (Nat.le_of_ble_eq_true rfl) dX5_cells_11 ?_
  exact ⟨rfl, rfl⟩
set_option maxRecDepth 100000 in
set_option maxHeartbeats 4000000 in
theorem k_w5_hasPoint (en : Nat → Nat) (c : Nat → Nat) (κ : St) (x : Int) (y : Int) (P : St) (hp : MI P ∧ CI P κ ∧ iR x ∧ iR y) : MC (EN en) yX5_hasPoint sX5_hasPoint [.ref (c 1), .int (zI x), .int (zI y)] (fm (cO en c κ)) (fun v w => v = some (.int (zI (bz (dcd (inF P x y))))) ∧ w = fm (cO en c κ)) := by
  refine MC.of (EN.stb en) [some (.ref (c 1)), some (.int (zI x)), some (.int (zI y))] 0 rfl rfl rfl (by simp [Value.category]) (Nat.le_of_ble_eq_true rfl) (fun K hK hR => ?_)
  obtain ⟨hM, hC, hp⟩ := hp
  have hN4 := hM.2.2.1
  have hp1 := hp.1
  have hp2 := hp.2
  unfold iR at hp1 hp2
  have hm1 := hM.1
  have hm2 := hM.2.1
  refine V_iload_n dX5_hasPoint_0 rfl ?_
  refine V_if_lt (tgt := 28) dX5_hasPoint_1 (by decide) ⟨by omega, by omega⟩ (fun c_1 => ?_) (fun c_1 => ?_)
  · refine V_iconst dX5_hasPoint_28 ?_
    show V K sX5_hasPoint 0 0 (fm (cO en c κ)) _ [.int (zI (bz false))] 29
    refine V_zret hR rfl (Nat.le_of_ble_eq_true rfl) (Nat.le_of_ble_eq_true rfl) dX5_hasPoint_29 ?_
    exact ⟨dcdF (by unfold inF; omega), rfl⟩
  · refine V_iload_n dX5_hasPoint_4 rfl ?_
    refine V_aload_n dX5_hasPoint_5 rfl ?_
    refine VO_getf (C0 := RX5) (T := TX5) (N := 4) (ci := 4) (fs := prF c κ) 1 1 iwX5 (by decide) w72 (Or.inl rfl) rfl (at_pr) rfl dX5_hasPoint_6 ?_
    refine V_eqT (y := zI (P 0 0)) (congrArg zI (congrFun ((hC).1 0 (by decide) (by decide)) _)) ?_
    refine V_icmp_ge (tgt := 28) dX5_hasPoint_9 (by decide) ⟨⟨by omega, by omega⟩, ⟨by omega, by omega⟩⟩ (fun c_2 => ?_) (fun c_2 => ?_)
    · refine V_iconst dX5_hasPoint_28 ?_
      show V K sX5_hasPoint 0 0 (fm (cO en c κ)) _ [.int (zI (bz false))] 29
      refine V_zret hR rfl (Nat.le_of_ble_eq_true rfl) (Nat.le_of_ble_eq_true rfl) dX5_hasPoint_29 ?_
      exact ⟨dcdF (by unfold inF; omega), rfl⟩
    · refine V_iload_n dX5_hasPoint_12 rfl ?_
      refine V_if_lt (tgt := 28) dX5_hasPoint_13 (by decide) ⟨by omega, by omega⟩ (fun c_3 => ?_) (fun c_3 => ?_)
      · refine V_iconst dX5_hasPoint_28 ?_
        show V K sX5_hasPoint 0 0 (fm (cO en c κ)) _ [.int (zI (bz false))] 29
        refine V_zret hR rfl (Nat.le_of_ble_eq_true rfl) (Nat.le_of_ble_eq_true rfl) dX5_hasPoint_29 ?_
        exact ⟨dcdF (by unfold inF; omega), rfl⟩
      · refine V_iload_n dX5_hasPoint_16 rfl ?_
        refine V_aload_n dX5_hasPoint_17 rfl ?_
        refine VO_getf (C0 := RX5) (T := TX5) (N := 4) (ci := 4) (fs := prF c κ) 1 2 iwX5 (by decide) w75 (Or.inl rfl) rfl (at_pr) rfl dX5_hasPoint_18 ?_
        refine V_eqT (y := zI (P 0 1)) (congrArg zI (congrFun ((hC).1 0 (by decide) (by decide)) _)) ?_
        refine V_icmp_ge (tgt := 28) dX5_hasPoint_21 (by decide) ⟨⟨by omega, by omega⟩, ⟨by omega, by omega⟩⟩ (fun c_4 => ?_) (fun c_4 => ?_)
        · refine V_iconst dX5_hasPoint_28 ?_
          show V K sX5_hasPoint 0 0 (fm (cO en c κ)) _ [.int (zI (bz false))] 29
          refine V_zret hR rfl (Nat.le_of_ble_eq_true rfl) (Nat.le_of_ble_eq_true rfl) dX5_hasPoint_29 ?_
          exact ⟨dcdF (by unfold inF; omega), rfl⟩
        · refine V_iconst dX5_hasPoint_24 ?_
          refine V_goto (tgt := 29) dX5_hasPoint_25 (by decide) ?_
          show V K sX5_hasPoint 0 0 (fm (cO en c κ)) _ [.int (zI (bz true))] 29
          refine V_zret hR rfl (Nat.le_of_ble_eq_true rfl) (Nat.le_of_ble_eq_true rfl) dX5_hasPoint_29 ?_
          exact ⟨dcdT (by unfold inF; omega), rfl⟩
set_option maxRecDepth 100000 in
set_option maxHeartbeats 4000000 in
theorem k_w5_cellOf (en : Nat → Nat) (c : Nat → Nat) (κ : St) (x : Int) (y : Int) (z : Int) (P : St) (hp : MI P ∧ CI P κ) : MC (EN en) yX5_cellOf sX5_cellOf [.ref (c 1), .int (zI x), .int (zI y), .int (zI z)] (fm (cO en c κ)) (fun v w => v = some (.int (zI (x * pt P + (y * P 0 1 + z)))) ∧ w = fm (cO en c κ)) := by
  refine MC.of (EN.stb en) [some (.ref (c 1)), some (.int (zI x)), some (.int (zI y)), some (.int (zI z))] 0 rfl rfl rfl (by simp [Value.category]) (Nat.le_of_ble_eq_true rfl) (fun K hK hR => ?_)
  obtain ⟨hM, hC⟩ := hp
  have hN4 := hM.2.2.1
  refine V_iload_n dX5_cellOf_0 rfl ?_
  refine V_aload_n dX5_cellOf_1 rfl ?_
  refine VO_getf (C0 := RX5) (T := TX5) (N := 4) (ci := 4) (fs := prF c κ) 1 3 iwX5 (by decide) w80 (Or.inl rfl) rfl (at_pr) rfl dX5_cellOf_2 ?_
  refine V_eqT (y := zI (pt P)) (congrArg zI (hC).2.1) ?_
  refine V_imul dX5_cellOf_5 ?_
  refine V_iload_n dX5_cellOf_6 rfl ?_
  refine V_aload_n dX5_cellOf_7 rfl ?_
  refine VO_getf (C0 := RX5) (T := TX5) (N := 4) (ci := 4) (fs := prF c κ) 1 2 iwX5 (by decide) w75 (Or.inl rfl) rfl (at_pr) rfl dX5_cellOf_8 ?_
  refine V_eqT (y := zI (P 0 1)) (congrArg zI (congrFun ((hC).1 0 (by decide) (by decide)) _)) ?_
  refine V_imul dX5_cellOf_11 ?_
  refine V_iadd dX5_cellOf_12 ?_
  refine V_iload_n dX5_cellOf_13 rfl ?_
  refine V_iadd dX5_cellOf_14 ?_
  refine V_iret hR rfl (Nat.le_of_ble_eq_true rfl) (Nat.le_of_ble_eq_true rfl) dX5_cellOf_15 ?_
  exact ⟨ziE (by omega), rfl⟩

/-! the class: static helps, windows, the program's small methods, lists -/
def rs (v m : Int) : Int := if m < 1 then 0 else Int.tmod v m
def absI (x : Int) : Int := if x < 0 then -x else x
def maxI (x y : Int) : Int := if x < y then y else x
theorem rs_t {v m : Int} (h : m < 1) : rs v m = 0 := if_pos h
theorem rs_f {v m : Int} (h : ¬ m < 1) : rs v m = Int.tmod v m := if_neg h
theorem mulS {a b A B : Int} (h1 : -A ≤ a) (h2 : a ≤ A) (h3 : -B ≤ b) (h4 : b ≤ B) : -(A * B) ≤ a * b ∧ a * b ≤ A * B := by
  have hA : 0 ≤ A := by omega
  have hB : 0 ≤ B := by omega
  rcases Int.le_total 0 a with ha | ha <;> rcases Int.le_total 0 b with hb | hb
  · have := mulB ha h2 hb h4
    have h5 := Int.mul_nonneg hA hB
    omega
  · have := mulB (b := -b) (B := B) ha h2 (by omega) (by omega)
    rw [Int.mul_neg] at this
    have h5 := Int.mul_nonneg hA hB
    omega
  · have := mulB (a := -a) (A := A) (by omega) (by omega) hb h4
    rw [Int.neg_mul] at this
    have h5 := Int.mul_nonneg hA hB
    omega
  · have := mulB (a := -a) (b := -b) (A := A) (B := B) (by omega) (by omega) (by omega) (by omega)
    rw [Int.neg_mul_neg] at this
    have h5 := Int.mul_nonneg hA hB
    omega
theorem rs_b {v m : Int} (h : m ≤ 99) : -99 < rs v m ∧ rs v m < 99 := by
  unfold rs
  split
  · omega
  · have := tmod_bounds (a := v) (M := m) (by omega)
    omega
/-- java/lang/Math has methods that the machine runs itself: the law of bodies by the method's own name -/
theorem Met.ofWF {l : Launch} {y : MethodName} {ws ws' : List Cond} {rm : Room} {Pc : Array Value → State → Prop} {Qc : Array Value → State → Outcome → State → Prop} {mc ms : Nat} {free : Addr → Prop} {cc : ByteArray} {maxL : Nat} {ret : Option FieldType}
    (hy : plainFor y = true) (hw : ws = Cond.code y cc maxL ret :: ws')
    (body : ∀ p e s m args below meth c s₁, BodyLoose p l y (headSpec ws rm) cc maxL ret e s m args below meth c s₁ → c.maxLocals = maxL → Pc args s →
      W p l e (headSpec ws rm).room s m args below meth c s.heap [] 0 0 (MQ below Qc args s mc ms free) (entryFrame m args maxL)) : Met l y ws rm Pc Qc mc ms free := by
  refine MetFree.of_bodySF (code := cc) (maxLocals := maxL) (ret := ret) hy ?_ ?_
  · intro args s m h hn
    obtain ⟨meth, c, h1, h2, h3, h4, h5, h6, -, -⟩ := Cond.code_spec hn (atoms_spec (ws := ws) h _ (by rw [hw]; exact List.mem_cons_self))
    exact ⟨meth, c, h1, h2, h3, h4, h5, h6⟩
  · intro p e s m args below meth c s₁ B hml hP _
    have hh0 : s₁.heap = s.heap := by rw [B.state]; rfl
    obtain ⟨t, a1, o, b1, b2, b3⟩ := body p e s m args below meth c s₁ B hml hP s₁ hh0 (Stand.of_body B)
    exact ⟨t, o, a1, b1, b2, ⟨b3.1, b3.2⟩⟩
theorem MC.ofF {E : EV} (hE : Stb E) {y : MethodName} {S : SI} {as : List Value} {ws : vWd} {Post : Option Value → vWd → Prop} (L0 : List (Option Value)) (r : Nat) (hL0 : as.map some ++ List.replicate r none = L0) (hy : plainFor y = true) (hS : y.cls = S.2.1) (hc : ∀ v ∈ as, v.category = 1) (hm : as.length ≤ S.2.2.1)
    (body : ∀ K : KT, evK K = E → RetOK K S.2.2.2.2.cells S.2.2.2.2.slots Post → V K S 0 0 ws L0 [] 0) : MC E y S as ws Post := by
  subst hL0
  intro l hst D cA sz
  refine Met.ofWF (cc := S.1) (maxL := S.2.2.1) (ret := S.2.2.2.1) hy rfl ?_
  intro p e s m args below meth c s₁ B hml hv
  obtain ⟨rfl, hsz, hP, hK, hD0, hEv⟩ := hv
  have hts := atoms_spec (ws := .code y S.1 S.2.2.1 S.2.2.2.1 :: WA) B.pre
  have hown : s.vm.findClass y.cls = some m.cls := findClass_of_methodNamed B.named
  subst hsz
  rw [lg_entry_eq]
  exact body (p, l, e, s, m, as.toArray, below, meth, c, D, cA, va_A (tw cA ws) s.heap.size, MQ below (QV D cA Post (va_A (tw cA ws) s.heap.size)) as.toArray s S.2.2.2.2.cells S.2.2.2.2.slots (va_A (tw cA ws) s.heap.size), E) rfl (fun _ _ _ _ h => h)
    ⟨B.exec, B.bytes, hml, hS ▸ hown, fun w hw => hts w (List.mem_cons_of_mem _ hw), hK, fun q h => Or.inr h, B.notSynchronized, B.returns, hst, hE, hEv⟩ s.heap [] _ hP hD0.self va_S.rf (lvO.entry hc hm)
theorem xor_neg {x : Int} (h : iR x) : (zI x ^^^ zI 100).toInt < 0 ↔ x < 0 := by
  have h1 : decide ((zI x ^^^ zI 100).toInt < 0) = decide (x < 0) := by
    have e1 : decide ((zI x ^^^ zI 100).toInt < 0) = (zI x ^^^ zI 100).toBitVec.msb := (BitVec.msb_eq_toInt).symm
    have e2 : (zI x).toBitVec.msb = decide ((zI x).toInt < 0) := BitVec.msb_eq_toInt
    have e3 : (zI 100).toBitVec.msb = false := by decide
    rw [e1, Int32.toBitVec_xor, BitVec.msb_xor, e2, e3, zI_toInt h]
    simp
  exact decide_eq_decide.mp h1
theorem tmod_negv {x : Int} (h : x < 0) : Int.tmod x 100 = -((-x) % 100) := by
  have h1 : Int.tmod x 100 = -(Int.tmod (-x) 100) := by rw [Int.neg_tmod]; omega
  rw [h1, Int.tmod_eq_emod_of_nonneg (by omega)]
theorem k_fm (en : Nat → Nat) (x : Int) (hp : -1000000 ≤ x ∧ x ≤ 1000000) : MC (EN en) yJ9_floorMod_7cf53 sJ9_floorMod_7cf53 [.int (zI x), .int (zI 100)] [] (fun v w => v = some (.int (zI (x % 100))) ∧ w = []) := by
  have hx : iR x := ⟨by omega, by omega⟩
  refine MC.ofF (EN.stb en) [some (.int (zI x)), some (.int (zI 100)), none] 1 rfl (by decide +kernel) rfl (by simp [Value.category]) (Nat.le_of_ble_eq_true rfl) (fun K hK hR => ?_)
  refine V_iload_n dJ9_floorMod_7cf53_0 rfl ?_
  refine V_iload_n dJ9_floorMod_7cf53_1 rfl ?_
  refine V_irem dJ9_floorMod_7cf53_2 ⟨hx, ⟨by omega, by omega⟩, by omega⟩ ?_
  refine V_istore_n (L' := [some (.int (zI x)), some (.int (zI 100)), some (.int (zI (Int.tmod x 100)))]) dJ9_floorMod_7cf53_3 (by decide) rfl ?_
  refine V_iload_n dJ9_floorMod_7cf53_4 rfl ?_
  refine V_iload_n dJ9_floorMod_7cf53_5 rfl ?_
  refine V_ixor dJ9_floorMod_7cf53_6 ?_
  refine V_eqT (zI_self _).symm ?_
  have h18 : x < 0 → Int.tmod x 100 ≠ 0 → False ∨ True := fun _ _ => Or.inr trivial
  refine V_if_ge (tgt := 18) dJ9_floorMod_7cf53_7 (by decide) (zI_rng _) (fun c => ?_) (fun c => ?_)
  · have hx0 : 0 ≤ x := Int.not_lt.mp (fun h => by have := (xor_neg hx).mpr h; omega)
    refine V_iload_n dJ9_floorMod_7cf53_18 rfl ?_
    refine V_iret hR rfl (Nat.le_of_ble_eq_true rfl) (Nat.le_of_ble_eq_true rfl) dJ9_floorMod_7cf53_19 ?_
    exact ⟨ziE (Int.tmod_eq_emod_of_nonneg hx0), rfl⟩
  · have hx0 : x < 0 := (xor_neg hx).mp c
    have ht := tmod_negv hx0
    refine V_iload_n dJ9_floorMod_7cf53_10 rfl ?_
    refine V_if_eq (tgt := 18) dJ9_floorMod_7cf53_11 (by decide) ⟨by omega, by omega⟩ (fun c2 => ?_) (fun c2 => ?_)
    · refine V_iload_n dJ9_floorMod_7cf53_18 rfl ?_
      refine V_iret hR rfl (Nat.le_of_ble_eq_true rfl) (Nat.le_of_ble_eq_true rfl) dJ9_floorMod_7cf53_19 ?_
      exact ⟨ziE (by omega), rfl⟩
    · refine V_iload_n dJ9_floorMod_7cf53_14 rfl ?_
      refine V_iload_n dJ9_floorMod_7cf53_15 rfl ?_
      refine V_iadd dJ9_floorMod_7cf53_16 ?_
      refine V_iret hR rfl (Nat.le_of_ble_eq_true rfl) (Nat.le_of_ble_eq_true rfl) dJ9_floorMod_7cf53_17 ?_
      exact ⟨ziE (by omega), rfl⟩
/-- bounds of a window's fields; its kind -/
def WB (κ : St) (i : Int) : Prop := (0 ≤ κ 39 i ∧ κ 39 i ≤ 3) ∧ (1 ≤ κ 40 i ∧ κ 40 i ≤ 99) ∧ (1 ≤ κ 41 i ∧ κ 41 i ≤ 99) ∧ (1 ≤ κ 42 i ∧ κ 42 i ≤ 99) ∧ (0 ≤ κ 43 i ∧ κ 43 i ≤ 9)
def inW (κ : St) (i : Int) : Prop := (0 ≤ i ∧ i ≤ 4) ∧ (i = 4 ∨ i < κ 0 2)
def wsz (κ : St) (i p : Int) : Int := if κ 39 i = 0 then p else if κ 39 i = 2 then κ 41 i * κ 42 i else κ 40 i
def wpl (κ : St) (i r d C : Int) : Int := if κ 39 i = 1 then rs (r * C + d) (κ 40 i) else if κ 39 i = 2 then rs r (κ 41 i) * κ 42 i + rs d (κ 42 i) else if κ 39 i = 3 then rs (r + d * κ 43 i) (κ 40 i) else r * C + d
def kaP (κ : St) (i r d C : Int) : Prop := if κ 39 i = 1 then rs (r * C + d) (κ 40 i) ≠ 0 else if κ 39 i = 2 then (rs r (κ 41 i) ≠ 0 ∨ rs d (κ 42 i) ≠ 0) else if κ 39 i = 3 then rs (r + d * κ 43 i) (κ 40 i) ≠ 0 else (r ≠ 0 ∨ d ≠ 0)
theorem dcdT {p : Prop} (h : p) : some (Value.int (zI (bz true))) = some (.int (zI (bz (dcd p)))) := bzE (dcd_t.mpr h).symm
theorem dcdF {p : Prop} (h : ¬ p) : some (Value.int (zI (bz false))) = some (.int (zI (bz (dcd p)))) := bzE (dcd_f.mpr h).symm
theorem k_ordinal (en : Nat → Nat) (i : Nat) (hi : i < 4) : MC (EN en) yJx29ce0_ordinal_8abf5 sJx29ce0_ordinal_8abf5 [.ref (en i)] [] (fun v w => v = some (.int (zI (i : Int))) ∧ w = []) := by
  refine MC.of (EN.stb en) [some (.ref (en i))] 0 rfl rfl rfl (by simp [Value.category]) (Nat.le_of_ble_eq_true rfl) (fun K hK hR => ?_)
  refine V_aload_n dJx29ce0_ordinal_8abf5_0 rfl ?_
  refine V_getO hK hi w1055 dJx29ce0_ordinal_8abf5_1 ?_
  refine V_iret hR rfl (Nat.le_refl _) (Nat.le_refl _) dJx29ce0_ordinal_8abf5_4 ?_
  exact ⟨rfl, rfl⟩
set_option maxRecDepth 100000 in
set_option maxHeartbeats 4000000 in
theorem k_abs (en : Nat → Nat) (x : Int) (hp : -2147483647 ≤ x ∧ x ≤ 2147483647) : MC (EN en) yJ9_abs_0f7a4 sJ9_abs_0f7a4 [.int (zI x)] [] (fun v w => v = some (.int (zI (absI x))) ∧ w = []) := by
  refine MC.ofF (EN.stb en) [some (.int (zI x))] 0 rfl (by decide +kernel) rfl (by simp [Value.category]) (Nat.le_of_ble_eq_true rfl) (fun K hK hR => ?_)
  refine V_iload_n dJ9_abs_0f7a4_0 rfl ?_
  refine V_if_ge (tgt := 9) dJ9_abs_0f7a4_1 (by decide) ⟨by omega, by omega⟩ (fun c_1 => ?_) (fun c_1 => ?_)
  · refine V_iload_n dJ9_abs_0f7a4_9 rfl ?_
    refine V_iret hR rfl (Nat.le_of_ble_eq_true rfl) (Nat.le_of_ble_eq_true rfl) dJ9_abs_0f7a4_10 ?_
    exact ⟨ziE (by unfold absI; split <;> omega), rfl⟩
  · refine V_iload_n dJ9_abs_0f7a4_4 rfl ?_
    refine V_ineg dJ9_abs_0f7a4_5 ?_
    refine V_goto (tgt := 10) dJ9_abs_0f7a4_6 (by decide) ?_
    refine V_iret hR rfl (Nat.le_of_ble_eq_true rfl) (Nat.le_of_ble_eq_true rfl) dJ9_abs_0f7a4_10 ?_
    exact ⟨ziE (by unfold absI; split <;> omega), rfl⟩
set_option maxRecDepth 100000 in
set_option maxHeartbeats 4000000 in
theorem k_max (en : Nat → Nat) (x : Int) (y : Int) (hp : iR x ∧ iR y) : MC (EN en) yJ9_max_7cf53 sJ9_max_7cf53 [.int (zI x), .int (zI y)] [] (fun v w => v = some (.int (zI (maxI x y))) ∧ w = []) := by
  refine MC.ofF (EN.stb en) [some (.int (zI x)), some (.int (zI y))] 0 rfl (by decide +kernel) rfl (by simp [Value.category]) (Nat.le_of_ble_eq_true rfl) (fun K hK hR => ?_)
  have hp1 := hp.1
  have hp2 := hp.2
  unfold iR at hp1 hp2
  refine V_iload_n dJ9_max_7cf53_0 rfl ?_
  refine V_iload_n dJ9_max_7cf53_1 rfl ?_
  refine V_icmp_lt (tgt := 9) dJ9_max_7cf53_2 (by decide) ⟨⟨by omega, by omega⟩, ⟨by omega, by omega⟩⟩ (fun c_1 => ?_) (fun c_1 => ?_)
  · refine V_iload_n dJ9_max_7cf53_9 rfl ?_
    refine V_iret hR rfl (Nat.le_of_ble_eq_true rfl) (Nat.le_of_ble_eq_true rfl) dJ9_max_7cf53_10 ?_
    exact ⟨ziE (by unfold maxI; split <;> omega), rfl⟩
  · refine V_iload_n dJ9_max_7cf53_5 rfl ?_
    refine V_goto (tgt := 10) dJ9_max_7cf53_6 (by decide) ?_
    refine V_iret hR rfl (Nat.le_of_ble_eq_true rfl) (Nat.le_of_ble_eq_true rfl) dJ9_max_7cf53_10 ?_
    exact ⟨ziE (by unfold maxI; split <;> omega), rfl⟩
set_option maxRecDepth 100000 in
set_option maxHeartbeats 4000000 in
theorem k_chk3 (en : Nat → Nat) (x : Int) (y : Int) (hp : (0 ≤ x ∧ x < y) ∧ y < 2147483648) : MC (EN en) yJ3_checkIndex_8e157 sJ3_checkIndex_8e157 [.int (zI x), .int (zI y), .null] [] (fun v w => v = some (.int (zI x)) ∧ w = []) := by
  refine MC.of (EN.stb en) [some (.int (zI x)), some (.int (zI y)), some (.null)] 0 rfl rfl rfl (by simp [Value.category]) (Nat.le_of_ble_eq_true rfl) (fun K hK hR => ?_)
  refine V_iload_n dJ3_checkIndex_8e157_0 rfl ?_
  refine V_if_lt (tgt := 9) dJ3_checkIndex_8e157_1 (by decide) ⟨by omega, by omega⟩ (fun c_1 => ?_) (fun c_1 => ?_)
  · exact absurd c_1 (by omega)
  · refine V_iload_n dJ3_checkIndex_8e157_4 rfl ?_
    refine V_iload_n dJ3_checkIndex_8e157_5 rfl ?_
    refine V_icmp_lt (tgt := 16) dJ3_checkIndex_8e157_6 (by decide) ⟨⟨by omega, by omega⟩, ⟨by omega, by omega⟩⟩ (fun c_2 => ?_) (fun c_2 => ?_)
    · refine V_iload_n dJ3_checkIndex_8e157_16 rfl ?_
      refine V_iret hR rfl (Nat.le_of_ble_eq_true rfl) (Nat.le_of_ble_eq_true rfl) dJ3_checkIndex_8e157_17 ?_
      exact ⟨rfl, rfl⟩
    · exact absurd c_2 (by omega)
set_option maxRecDepth 100000 in
set_option maxHeartbeats 4000000 in
theorem k_chk2 (en : Nat → Nat) (x : Int) (y : Int) (hp : (0 ≤ x ∧ x < y) ∧ y < 2147483648) : MC (EN en) yJ15_checkIndex_7cf53 sJ15_checkIndex_7cf53 [.int (zI x), .int (zI y)] [] (fun v w => v = some (.int (zI x)) ∧ w = []) := by
  refine MC.of (EN.stb en) [some (.int (zI x)), some (.int (zI y))] 0 rfl rfl rfl (by simp [Value.category]) (Nat.le_of_ble_eq_true rfl) (fun K hK hR => ?_)
  refine V_iload_n dJ15_checkIndex_7cf53_0 rfl ?_
  refine V_iload_n dJ15_checkIndex_7cf53_1 rfl ?_
  refine V_null dJ15_checkIndex_7cf53_2 ?_
  refine V_callSE (As := [.int (zI x), .int (zI y), .null]) hK (k_chk3 en x y (hp)) mokJ3_checkIndex_8e157 w280 w281 ⟨Nat.le_of_ble_eq_true rfl, Nat.le_of_ble_eq_true rfl⟩ rfl (Nat.le_of_ble_eq_true rfl) ⟨Nat.le_of_ble_eq_true rfl, Nat.le_of_ble_eq_true rfl⟩ dJ15_checkIndex_7cf53_3 (fun v w p_1 => ?_)
  obtain ⟨rfl, rfl⟩ := p_1
  show V K sJ15_checkIndex_7cf53 0 0 [] [some (.int (zI x)), some (.int (zI y))] [.int (zI x)] 6
  refine V_iret hR rfl (Nat.le_of_ble_eq_true rfl) (Nat.le_of_ble_eq_true rfl) dJ15_checkIndex_7cf53_6 ?_
  exact ⟨rfl, rfl⟩
set_option maxRecDepth 100000 in
set_option maxHeartbeats 4000000 in
theorem k_rs (en : Nat → Nat) (x : Int) (y : Int) (hp : iR x ∧ iR y) : MC (EN en) yX10_restOf sX10_restOf [.int (zI x), .int (zI y)] [] (fun v w => v = some (.int (zI (rs x y))) ∧ w = []) := by
  refine MC.of (EN.stb en) [some (.int (zI x)), some (.int (zI y))] 0 rfl rfl rfl (by simp [Value.category]) (Nat.le_of_ble_eq_true rfl) (fun K hK hR => ?_)
  have hp1 := hp.1
  have hp2 := hp.2
  unfold iR at hp1 hp2
  refine V_iload_n dX10_restOf_0 rfl ?_
  refine V_iconst dX10_restOf_1 ?_
  refine V_icmp_ge (tgt := 9) dX10_restOf_2 (by decide) ⟨⟨by omega, by omega⟩, ⟨by omega, by omega⟩⟩ (fun c_1 => ?_) (fun c_1 => ?_)
  · refine V_iload_n dX10_restOf_9 rfl ?_
    refine V_iload_n dX10_restOf_10 rfl ?_
    refine V_irem dX10_restOf_11 ⟨⟨by omega, by omega⟩, ⟨by omega, by omega⟩, by omega⟩ ?_
    refine V_iret hR rfl (Nat.le_of_ble_eq_true rfl) (Nat.le_of_ble_eq_true rfl) dX10_restOf_12 ?_
    exact ⟨ziE (rs_f (by omega)).symm, rfl⟩
  · refine V_iconst dX10_restOf_5 ?_
    refine V_goto (tgt := 12) dX10_restOf_6 (by decide) ?_
    refine V_iret hR rfl (Nat.le_of_ble_eq_true rfl) (Nat.le_of_ble_eq_true rfl) dX10_restOf_12 ?_
    exact ⟨ziE (rs_t (by omega)).symm, rfl⟩
set_option maxRecDepth 100000 in
set_option maxHeartbeats 4000000 in
theorem k_w8_becomeWhole (en : Nat → Nat) (c : Nat → Nat) (κ : St) (i : Int) (hp : inW κ i) : MC (EN en) yX8_becomeWhole sX8_becomeWhole [.ref (c (34 + 8 * Int.toNat i))] (fm (cO en c κ)) (fun v w => v = none ∧ w = fm (cO en c (up κ 39 i ((0 : Nat) : Int)))) := by
  refine MC.of (EN.stb en) [some (.ref (c (34 + 8 * Int.toNat i)))] 0 rfl rfl rfl (by simp [Value.category]) (Nat.le_of_ble_eq_true rfl) (fun K hK hR => ?_)
  refine V_aload_n dX8_becomeWhole_0 rfl ?_
  refine V_getK hK (i := 0) (by decide) w173 dX8_becomeWhole_1 ?_
  refine VO_putf (C0 := RX8) (T := TX8) (N := 5) (ci := 7) (fs := wnF en κ i) (34 + 8 * Int.toNat i) 0 iwX8 (by decide) w175 (Or.inl rfl) tyX8 tyX8_ok nmX8 rfl rfl (at_wn (hp)) (Nat.le_of_ble_eq_true rfl) rfl rfl dX8_becomeWhole_4 (st_wn_kind 0 (hp)) ?_
  refine V_vret hR rfl (Nat.le_of_ble_eq_true rfl) (Nat.le_of_ble_eq_true rfl) dX8_becomeWhole_7 ?_
  exact ⟨rfl, rfl⟩
set_option maxRecDepth 100000 in
set_option maxHeartbeats 4000000 in
theorem k_w8_becomeRest (en : Nat → Nat) (c : Nat → Nat) (κ : St) (i : Int) (x : Int) (hp : inW κ i) : MC (EN en) yX8_becomeRest sX8_becomeRest [.ref (c (34 + 8 * Int.toNat i)), .int (zI x)] (fm (cO en c κ)) (fun v w => v = none ∧ w = fm (cO en c (up (up κ 39 i ((1 : Nat) : Int)) 40 i x))) := by
  refine MC.of (EN.stb en) [some (.ref (c (34 + 8 * Int.toNat i))), some (.int (zI x))] 0 rfl rfl rfl (by simp [Value.category]) (Nat.le_of_ble_eq_true rfl) (fun K hK hR => ?_)
  refine V_aload_n dX8_becomeRest_0 rfl ?_
  refine V_getK hK (i := 1) (by decide) w408 dX8_becomeRest_1 ?_
  refine VO_putf (C0 := RX8) (T := TX8) (N := 5) (ci := 7) (fs := wnF en κ i) (34 + 8 * Int.toNat i) 0 iwX8 (by decide) w175 (Or.inl rfl) tyX8 tyX8_ok nmX8 rfl rfl (at_wn (hp)) (Nat.le_of_ble_eq_true rfl) rfl rfl dX8_becomeRest_4 (st_wn_kind 1 (hp)) ?_
  refine V_aload_n dX8_becomeRest_7 rfl ?_
  refine V_iload_n dX8_becomeRest_8 rfl ?_
  refine VO_putf (C0 := RX8) (T := TX8) (N := 5) (ci := 7) (fs := wnF en (up κ 39 i ((1 : Nat) : Int)) i) (34 + 8 * Int.toNat i) 1 iwX8 (by decide) w176 (Or.inl rfl) tyX8 tyX8_ok nmX8 rfl rfl (at_wn (hp)) (Nat.le_of_ble_eq_true rfl) rfl rfl dX8_becomeRest_9 (st_wn_modulus x (hp)) ?_
  refine V_vret hR rfl (Nat.le_of_ble_eq_true rfl) (Nat.le_of_ble_eq_true rfl) dX8_becomeRest_12 ?_
  exact ⟨rfl, rfl⟩
set_option maxRecDepth 100000 in
set_option maxHeartbeats 4000000 in
theorem k_w8_becomeTwoRests (en : Nat → Nat) (c : Nat → Nat) (κ : St) (i : Int) (x : Int) (y : Int) (hp : inW κ i) : MC (EN en) yX8_becomeTwoRests sX8_becomeTwoRests [.ref (c (34 + 8 * Int.toNat i)), .int (zI x), .int (zI y)] (fm (cO en c κ)) (fun v w => v = none ∧ w = fm (cO en c (up (up (up κ 39 i ((2 : Nat) : Int)) 41 i x) 42 i y))) := by
  refine MC.of (EN.stb en) [some (.ref (c (34 + 8 * Int.toNat i))), some (.int (zI x)), some (.int (zI y))] 0 rfl rfl rfl (by simp [Value.category]) (Nat.le_of_ble_eq_true rfl) (fun K hK hR => ?_)
  refine V_aload_n dX8_becomeTwoRests_0 rfl ?_
  refine V_getK hK (i := 2) (by decide) w437 dX8_becomeTwoRests_1 ?_
  refine VO_putf (C0 := RX8) (T := TX8) (N := 5) (ci := 7) (fs := wnF en κ i) (34 + 8 * Int.toNat i) 0 iwX8 (by decide) w175 (Or.inl rfl) tyX8 tyX8_ok nmX8 rfl rfl (at_wn (hp)) (Nat.le_of_ble_eq_true rfl) rfl rfl dX8_becomeTwoRests_4 (st_wn_kind 2 (hp)) ?_
  refine V_aload_n dX8_becomeTwoRests_7 rfl ?_
  refine V_iload_n dX8_becomeTwoRests_8 rfl ?_
  refine VO_putf (C0 := RX8) (T := TX8) (N := 5) (ci := 7) (fs := wnF en (up κ 39 i ((2 : Nat) : Int)) i) (34 + 8 * Int.toNat i) 2 iwX8 (by decide) w178 (Or.inl rfl) tyX8 tyX8_ok nmX8 rfl rfl (at_wn (hp)) (Nat.le_of_ble_eq_true rfl) rfl rfl dX8_becomeTwoRests_9 (st_wn_rowModulus x (hp)) ?_
  refine V_aload_n dX8_becomeTwoRests_12 rfl ?_
  refine V_iload_n dX8_becomeTwoRests_13 rfl ?_
  refine VO_putf (C0 := RX8) (T := TX8) (N := 5) (ci := 7) (fs := wnF en (up (up κ 39 i ((2 : Nat) : Int)) 41 i x) i) (34 + 8 * Int.toNat i) 3 iwX8 (by decide) w180 (Or.inl rfl) tyX8 tyX8_ok nmX8 rfl rfl (at_wn (hp)) (Nat.le_of_ble_eq_true rfl) rfl rfl dX8_becomeTwoRests_14 (st_wn_columnModulus y (hp)) ?_
  refine V_vret hR rfl (Nat.le_of_ble_eq_true rfl) (Nat.le_of_ble_eq_true rfl) dX8_becomeTwoRests_17 ?_
  exact ⟨rfl, rfl⟩
set_option maxRecDepth 100000 in
set_option maxHeartbeats 4000000 in
theorem k_w8_becomeSlant (en : Nat → Nat) (c : Nat → Nat) (κ : St) (i : Int) (x : Int) (y : Int) (hp : inW κ i) : MC (EN en) yX8_becomeSlant sX8_becomeSlant [.ref (c (34 + 8 * Int.toNat i)), .int (zI x), .int (zI y)] (fm (cO en c κ)) (fun v w => v = none ∧ w = fm (cO en c (up (up (up κ 39 i ((3 : Nat) : Int)) 43 i x) 40 i y))) := by
  refine MC.of (EN.stb en) [some (.ref (c (34 + 8 * Int.toNat i))), some (.int (zI x)), some (.int (zI y))] 0 rfl rfl rfl (by simp [Value.category]) (Nat.le_of_ble_eq_true rfl) (fun K hK hR => ?_)
  refine V_aload_n dX8_becomeSlant_0 rfl ?_
  refine V_getK hK (i := 3) (by decide) w459 dX8_becomeSlant_1 ?_
  refine VO_putf (C0 := RX8) (T := TX8) (N := 5) (ci := 7) (fs := wnF en κ i) (34 + 8 * Int.toNat i) 0 iwX8 (by decide) w175 (Or.inl rfl) tyX8 tyX8_ok nmX8 rfl rfl (at_wn (hp)) (Nat.le_of_ble_eq_true rfl) rfl rfl dX8_becomeSlant_4 (st_wn_kind 3 (hp)) ?_
  refine V_aload_n dX8_becomeSlant_7 rfl ?_
  refine V_iload_n dX8_becomeSlant_8 rfl ?_
  refine VO_putf (C0 := RX8) (T := TX8) (N := 5) (ci := 7) (fs := wnF en (up κ 39 i ((3 : Nat) : Int)) i) (34 + 8 * Int.toNat i) 4 iwX8 (by decide) w182 (Or.inl rfl) tyX8 tyX8_ok nmX8 rfl rfl (at_wn (hp)) (Nat.le_of_ble_eq_true rfl) rfl rfl dX8_becomeSlant_9 (st_wn_slant x (hp)) ?_
  refine V_aload_n dX8_becomeSlant_12 rfl ?_
  refine V_iload_n dX8_becomeSlant_13 rfl ?_
  refine VO_putf (C0 := RX8) (T := TX8) (N := 5) (ci := 7) (fs := wnF en (up (up κ 39 i ((3 : Nat) : Int)) 43 i x) i) (34 + 8 * Int.toNat i) 1 iwX8 (by decide) w176 (Or.inl rfl) tyX8 tyX8_ok nmX8 rfl rfl (at_wn (hp)) (Nat.le_of_ble_eq_true rfl) rfl rfl dX8_becomeSlant_14 (st_wn_modulus y (hp)) ?_
  refine V_vret hR rfl (Nat.le_of_ble_eq_true rfl) (Nat.le_of_ble_eq_true rfl) dX8_becomeSlant_17 ?_
  exact ⟨rfl, rfl⟩
set_option maxRecDepth 100000 in
set_option maxHeartbeats 4000000 in
theorem k_w8_places (en : Nat → Nat) (c : Nat → Nat) (κ : St) (i : Int) (x : Int) (hp : inW κ i ∧ WB κ i ∧ (0 ≤ x ∧ x ≤ 64)) : MC (EN en) yX8_places sX8_places [.ref (c (34 + 8 * Int.toNat i)), .int (zI x)] (fm (cO en c κ)) (fun v w => v = some (.int (zI (wsz κ i x))) ∧ w = fm (cO en c κ)) := by
  refine MC.of (EN.stb en) [some (.ref (c (34 + 8 * Int.toNat i))), some (.int (zI x))] 0 rfl rfl rfl (by simp [Value.category]) (Nat.le_of_ble_eq_true rfl) (fun K hK hR => ?_)
  refine en_inj hK (fun hen => ?_)
  obtain ⟨hw, ⟨hb1, hb2, hb3, hb4, hb5⟩, hx⟩ := hp
  refine V_aload_n dX8_places_0 rfl ?_
  refine VO_getf (C0 := RX8) (T := TX8) (N := 5) (ci := 7) (fs := wnF en κ i) (34 + 8 * Int.toNat i) 0 iwX8 (by decide) w175 (Or.inl rfl) rfl (at_wn (hw)) rfl dX8_places_1 ?_
  show V K sX8_places 0 0 (fm (cO en c κ)) [some (.ref (c (34 + 8 * Int.toNat i))), some (.int (zI x))] [.ref (en (Int.toNat (κ 39 i)))] 4
  refine V_getK hK (i := 0) (by decide) w173 dX8_places_4 ?_
  refine V_acmp_ne (tgt := 12) dX8_places_7 (by decide) (fun c_1 => ?_) (fun c_1 => ?_)
  · refine V_aload_n dX8_places_12 rfl ?_
    refine VO_getf (C0 := RX8) (T := TX8) (N := 5) (ci := 7) (fs := wnF en κ i) (34 + 8 * Int.toNat i) 0 iwX8 (by decide) w175 (Or.inl rfl) rfl (at_wn (hw)) rfl dX8_places_13 ?_
    show V K sX8_places 0 0 (fm (cO en c κ)) [some (.ref (c (34 + 8 * Int.toNat i))), some (.int (zI x))] [.ref (en (Int.toNat (κ 39 i)))] 16
    refine V_getK hK (i := 2) (by decide) w437 dX8_places_16 ?_
    refine V_acmp_ne (tgt := 34) dX8_places_19 (by decide) (fun c_2 => ?_) (fun c_2 => ?_)
    · refine V_aload_n dX8_places_34 rfl ?_
      refine VO_getf (C0 := RX8) (T := TX8) (N := 5) (ci := 7) (fs := wnF en κ i) (34 + 8 * Int.toNat i) 1 iwX8 (by decide) w176 (Or.inl rfl) rfl (at_wn (hw)) rfl dX8_places_35 ?_
      refine V_iret hR rfl (Nat.le_of_ble_eq_true rfl) (Nat.le_of_ble_eq_true rfl) dX8_places_38 ?_
      have h8 : κ 39 i ≠ 0 := fun h => c_1 (by rw [h]; rfl)
      have h9 : κ 39 i ≠ 2 := fun h => c_2 (by rw [h]; rfl)
      exact ⟨ziE (by unfold wsz; rw [if_neg h8, if_neg h9]), rfl⟩
    · refine V_aload_n dX8_places_22 rfl ?_
      refine VO_getf (C0 := RX8) (T := TX8) (N := 5) (ci := 7) (fs := wnF en κ i) (34 + 8 * Int.toNat i) 2 iwX8 (by decide) w178 (Or.inl rfl) rfl (at_wn (hw)) rfl dX8_places_23 ?_
      refine V_aload_n dX8_places_26 rfl ?_
      refine VO_getf (C0 := RX8) (T := TX8) (N := 5) (ci := 7) (fs := wnF en κ i) (34 + 8 * Int.toNat i) 3 iwX8 (by decide) w180 (Or.inl rfl) rfl (at_wn (hw)) rfl dX8_places_27 ?_
      refine V_imul dX8_places_30 ?_
      refine V_goto (tgt := 38) dX8_places_31 (by decide) ?_
      refine V_iret hR rfl (Nat.le_of_ble_eq_true rfl) (Nat.le_of_ble_eq_true rfl) dX8_places_38 ?_
      exact ⟨ziE (by have h9 := hen _ _ (by omega) (by omega) c_2; unfold wsz; rw [if_neg (by omega), if_pos (by omega)]), rfl⟩
  · refine V_iload_n dX8_places_10 rfl ?_
    refine V_iret hR rfl (Nat.le_of_ble_eq_true rfl) (Nat.le_of_ble_eq_true rfl) dX8_places_11 ?_
    exact ⟨ziE (by have h9 := hen _ _ (by omega) (by omega) c_1; unfold wsz; rw [if_pos (by omega)]), rfl⟩
set_option maxRecDepth 100000 in
set_option maxHeartbeats 4000000 in
theorem k_w8_placeFor (en : Nat → Nat) (c : Nat → Nat) (κ : St) (i : Int) (x : Int) (y : Int) (z : Int) (hp : inW κ i ∧ WB κ i ∧ (-7 ≤ x ∧ x ≤ 7) ∧ (-7 ≤ y ∧ y ≤ 7) ∧ (1 ≤ z ∧ z ≤ 8)) : MC (EN en) yX8_placeFor sX8_placeFor [.ref (c (34 + 8 * Int.toNat i)), .int (zI x), .int (zI y), .int (zI z)] (fm (cO en c κ)) (fun v w => v = some (.int (zI (wpl κ i x y z))) ∧ w = fm (cO en c κ)) := by
  refine MC.of (EN.stb en) [some (.ref (c (34 + 8 * Int.toNat i))), some (.int (zI x)), some (.int (zI y)), some (.int (zI z))] 0 rfl rfl rfl (by simp [Value.category]) (Nat.le_of_ble_eq_true rfl) (fun K hK hR => ?_)
  obtain ⟨hw, ⟨hb1, hb2, hb3, hb4, hb5⟩, hx, hy, hz⟩ := hp
  have m1 := mulS (a := x) (b := z) (A := 7) (B := 8) hx.1 hx.2 (by omega) hz.2
  have m2 := mulS (a := y) (b := κ 43 i) (A := 7) (B := 9) hy.1 hy.2 (by omega) (by omega)
  refine V_getM hK w418 dX8_placeFor_0 ?_
  refine V_aload_n dX8_placeFor_3 rfl ?_
  refine VO_getf (C0 := RX8) (T := TX8) (N := 5) (ci := 7) (fs := wnF en κ i) (34 + 8 * Int.toNat i) 0 iwX8 (by decide) w175 (Or.inl rfl) rfl (at_wn (hw)) rfl dX8_placeFor_4 ?_
  show V K sX8_placeFor 0 0 (fm (cO en c κ)) [some (.ref (c (34 + 8 * Int.toNat i))), some (.int (zI x)), some (.int (zI y)), some (.int (zI z))] [.ref (en (Int.toNat (κ 39 i))), .ref (en 4)] 7
  refine V_ordinal hK (i := Int.toNat (κ 39 i)) (by omega) (k_ordinal en (Int.toNat (κ 39 i)) (by omega)) mokJx29ce0_ordinal_8abf5 w420 w421 w423 w424 ⟨Nat.le_of_ble_eq_true rfl, Nat.le_of_ble_eq_true rfl⟩ (Nat.le_of_ble_eq_true rfl) ⟨Nat.le_of_ble_eq_true rfl, Nat.le_of_ble_eq_true rfl⟩ dX8_placeFor_7 (fun v w p_1 => ?_)
  obtain ⟨rfl, rfl⟩ := p_1
  show V K sX8_placeFor 0 0 (fm (cO en c κ)) [some (.ref (c (34 + 8 * Int.toNat i))), some (.int (zI x)), some (.int (zI y)), some (.int (zI z))] [.int (zI ((Int.toNat (κ 39 i) : Nat) : Int)), .ref (en 4)] 10
  refine V_ldM hK ⟨by omega, by omega⟩ dX8_placeFor_10 ?_
  rcases (show ((Int.toNat (κ 39 i) : Nat) : Int) < 1 ∨ 3 < ((Int.toNat (κ 39 i) : Nat) : Int) ∨ ((Int.toNat (κ 39 i) : Nat) : Int) = 1 ∨ ((Int.toNat (κ 39 i) : Nat) : Int) = 2 ∨ ((Int.toNat (κ 39 i) : Nat) : Int) = 3 by omega) with c_2 | c_2 | c_2 | c_2 | c_2
  · refine V_tableOut (tgt := 88) dX8_placeFor_11 ⟨by omega, by omega⟩ (Or.inl c_2) (by decide) ?_
    refine V_iload_n dX8_placeFor_88 rfl ?_
    refine V_iload_n dX8_placeFor_89 rfl ?_
    refine V_imul dX8_placeFor_90 ?_
    refine V_iload_n dX8_placeFor_91 rfl ?_
    refine V_iadd dX8_placeFor_92 ?_
    refine V_iret hR rfl (Nat.le_of_ble_eq_true rfl) (Nat.le_of_ble_eq_true rfl) dX8_placeFor_93 ?_
    exact ⟨ziE (by unfold wpl; rw [if_neg (by omega)]; rw [if_neg (by omega)]; rw [if_neg (by omega)]), rfl⟩
  · exact absurd c_2 (by omega)
  · refine V_tableIn (tgt := 36) dX8_placeFor_11 ⟨by omega, by omega⟩ (by omega) (by omega) (by rw [c_2]; rfl) (by decide) ?_
    refine V_iload_n dX8_placeFor_36 rfl ?_
    refine V_iload_n dX8_placeFor_37 rfl ?_
    refine V_imul dX8_placeFor_38 ?_
    refine V_iload_n dX8_placeFor_39 rfl ?_
    refine V_iadd dX8_placeFor_40 ?_
    refine V_aload_n dX8_placeFor_41 rfl ?_
    refine VO_getf (C0 := RX8) (T := TX8) (N := 5) (ci := 7) (fs := wnF en κ i) (34 + 8 * Int.toNat i) 1 iwX8 (by decide) w176 (Or.inl rfl) rfl (at_wn (hw)) rfl dX8_placeFor_42 ?_
    refine V_callSEN (As := [.int (zI ((x * z) + y)), .int (zI (κ 40 i))]) hK (k_rs en ((x * z) + y) (κ 40 i) (⟨⟨by omega, by omega⟩, ⟨by omega, by omega⟩⟩)) mokX10_restOf wn426 w427 ⟨Nat.le_of_ble_eq_true rfl, Nat.le_of_ble_eq_true rfl⟩ rfl (Nat.le_of_ble_eq_true rfl) ⟨Nat.le_of_ble_eq_true rfl, Nat.le_of_ble_eq_true rfl⟩ dX8_placeFor_45 (fun v w p_3 => ?_)
    obtain ⟨rfl, rfl⟩ := p_3
    show V K sX8_placeFor 0 0 (fm (cO en c κ)) [some (.ref (c (34 + 8 * Int.toNat i))), some (.int (zI x)), some (.int (zI y)), some (.int (zI z))] [.int (zI (rs ((x * z) + y) (κ 40 i)))] 48
    refine V_iret hR rfl (Nat.le_of_ble_eq_true rfl) (Nat.le_of_ble_eq_true rfl) dX8_placeFor_48 ?_
    exact ⟨ziE (by unfold wpl; rw [if_pos (by omega)]), rfl⟩
  · refine V_tableIn (tgt := 49) dX8_placeFor_11 ⟨by omega, by omega⟩ (by omega) (by omega) (by rw [c_2]; rfl) (by decide) ?_
    refine V_iload_n dX8_placeFor_49 rfl ?_
    refine V_aload_n dX8_placeFor_50 rfl ?_
    refine VO_getf (C0 := RX8) (T := TX8) (N := 5) (ci := 7) (fs := wnF en κ i) (34 + 8 * Int.toNat i) 2 iwX8 (by decide) w178 (Or.inl rfl) rfl (at_wn (hw)) rfl dX8_placeFor_51 ?_
    refine V_callSEN (As := [.int (zI x), .int (zI (κ 41 i))]) hK (k_rs en x (κ 41 i) (⟨⟨by omega, by omega⟩, ⟨by omega, by omega⟩⟩)) mokX10_restOf wn426 w427 ⟨Nat.le_of_ble_eq_true rfl, Nat.le_of_ble_eq_true rfl⟩ rfl (Nat.le_of_ble_eq_true rfl) ⟨Nat.le_of_ble_eq_true rfl, Nat.le_of_ble_eq_true rfl⟩ dX8_placeFor_54 (fun v w p_4 => ?_)
    obtain ⟨rfl, rfl⟩ := p_4
    show V K sX8_placeFor 0 0 (fm (cO en c κ)) [some (.ref (c (34 + 8 * Int.toNat i))), some (.int (zI x)), some (.int (zI y)), some (.int (zI z))] [.int (zI (rs x (κ 41 i)))] 57
    refine V_aload_n dX8_placeFor_57 rfl ?_
    refine VO_getf (C0 := RX8) (T := TX8) (N := 5) (ci := 7) (fs := wnF en κ i) (34 + 8 * Int.toNat i) 3 iwX8 (by decide) w180 (Or.inl rfl) rfl (at_wn (hw)) rfl dX8_placeFor_58 ?_
    refine V_imul dX8_placeFor_61 ?_
    refine V_iload_n dX8_placeFor_62 rfl ?_
    refine V_aload_n dX8_placeFor_63 rfl ?_
    refine VO_getf (C0 := RX8) (T := TX8) (N := 5) (ci := 7) (fs := wnF en κ i) (34 + 8 * Int.toNat i) 3 iwX8 (by decide) w180 (Or.inl rfl) rfl (at_wn (hw)) rfl dX8_placeFor_64 ?_
    refine V_callSEN (As := [.int (zI y), .int (zI (κ 42 i))]) hK (k_rs en y (κ 42 i) (⟨⟨by omega, by omega⟩, ⟨by omega, by omega⟩⟩)) mokX10_restOf wn426 w427 ⟨Nat.le_of_ble_eq_true rfl, Nat.le_of_ble_eq_true rfl⟩ rfl (Nat.le_of_ble_eq_true rfl) ⟨Nat.le_of_ble_eq_true rfl, Nat.le_of_ble_eq_true rfl⟩ dX8_placeFor_67 (fun v w p_5 => ?_)
    obtain ⟨rfl, rfl⟩ := p_5
    show V K sX8_placeFor 0 0 (fm (cO en c κ)) [some (.ref (c (34 + 8 * Int.toNat i))), some (.int (zI x)), some (.int (zI y)), some (.int (zI z))] [.int (zI (rs y (κ 42 i))), .int (zI ((rs x (κ 41 i)) * (κ 42 i)))] 70
    refine V_iadd dX8_placeFor_70 ?_
    refine V_iret hR rfl (Nat.le_of_ble_eq_true rfl) (Nat.le_of_ble_eq_true rfl) dX8_placeFor_71 ?_
    exact ⟨ziE (by unfold wpl; rw [if_neg (by omega)]; rw [if_pos (by omega)]), rfl⟩
  · refine V_tableIn (tgt := 72) dX8_placeFor_11 ⟨by omega, by omega⟩ (by omega) (by omega) (by rw [c_2]; rfl) (by decide) ?_
    refine V_iload_n dX8_placeFor_72 rfl ?_
    refine V_iload_n dX8_placeFor_73 rfl ?_
    refine V_aload_n dX8_placeFor_74 rfl ?_
    refine VO_getf (C0 := RX8) (T := TX8) (N := 5) (ci := 7) (fs := wnF en κ i) (34 + 8 * Int.toNat i) 4 iwX8 (by decide) w182 (Or.inl rfl) rfl (at_wn (hw)) rfl dX8_placeFor_75 ?_
    refine V_imul dX8_placeFor_78 ?_
    refine V_iadd dX8_placeFor_79 ?_
    refine V_aload_n dX8_placeFor_80 rfl ?_
    refine VO_getf (C0 := RX8) (T := TX8) (N := 5) (ci := 7) (fs := wnF en κ i) (34 + 8 * Int.toNat i) 1 iwX8 (by decide) w176 (Or.inl rfl) rfl (at_wn (hw)) rfl dX8_placeFor_81 ?_
    refine V_callSEN (As := [.int (zI (x + (y * (κ 43 i)))), .int (zI (κ 40 i))]) hK (k_rs en (x + (y * (κ 43 i))) (κ 40 i) (⟨⟨by omega, by omega⟩, ⟨by omega, by omega⟩⟩)) mokX10_restOf wn426 w427 ⟨Nat.le_of_ble_eq_true rfl, Nat.le_of_ble_eq_true rfl⟩ rfl (Nat.le_of_ble_eq_true rfl) ⟨Nat.le_of_ble_eq_true rfl, Nat.le_of_ble_eq_true rfl⟩ dX8_placeFor_84 (fun v w p_6 => ?_)
    obtain ⟨rfl, rfl⟩ := p_6
    show V K sX8_placeFor 0 0 (fm (cO en c κ)) [some (.ref (c (34 + 8 * Int.toNat i))), some (.int (zI x)), some (.int (zI y)), some (.int (zI z))] [.int (zI (rs (x + (y * (κ 43 i))) (κ 40 i)))] 87
    refine V_iret hR rfl (Nat.le_of_ble_eq_true rfl) (Nat.le_of_ble_eq_true rfl) dX8_placeFor_87 ?_
    exact ⟨ziE (by unfold wpl; rw [if_neg (by omega)]; rw [if_neg (by omega)]; rw [if_pos (by omega)]), rfl⟩
set_option maxRecDepth 100000 in
set_option maxHeartbeats 4000000 in
theorem k_w8_keepsApart (en : Nat → Nat) (c : Nat → Nat) (κ : St) (i : Int) (x : Int) (y : Int) (z : Int) (hp : inW κ i ∧ WB κ i ∧ (-7 ≤ x ∧ x ≤ 7) ∧ (-7 ≤ y ∧ y ≤ 7) ∧ (1 ≤ z ∧ z ≤ 8)) : MC (EN en) yX8_keepsApart sX8_keepsApart [.ref (c (34 + 8 * Int.toNat i)), .int (zI x), .int (zI y), .int (zI z)] (fm (cO en c κ)) (fun v w => v = some (.int (zI (bz (dcd (kaP κ i x y z))))) ∧ w = fm (cO en c κ)) := by
  refine MC.of (EN.stb en) [some (.ref (c (34 + 8 * Int.toNat i))), some (.int (zI x)), some (.int (zI y)), some (.int (zI z))] 0 rfl rfl rfl (by simp [Value.category]) (Nat.le_of_ble_eq_true rfl) (fun K hK hR => ?_)
  obtain ⟨hw, ⟨hb1, hb2, hb3, hb4, hb5⟩, hx, hy, hz⟩ := hp
  have m1 := mulS (a := x) (b := z) (A := 7) (B := 8) hx.1 hx.2 (by omega) hz.2
  have m2 := mulS (a := y) (b := κ 43 i) (A := 7) (B := 9) hy.1 hy.2 (by omega) (by omega)
  refine V_getM hK w418 dX8_keepsApart_0 ?_
  refine V_aload_n dX8_keepsApart_3 rfl ?_
  refine VO_getf (C0 := RX8) (T := TX8) (N := 5) (ci := 7) (fs := wnF en κ i) (34 + 8 * Int.toNat i) 0 iwX8 (by decide) w175 (Or.inl rfl) rfl (at_wn (hw)) rfl dX8_keepsApart_4 ?_
  show V K sX8_keepsApart 0 0 (fm (cO en c κ)) [some (.ref (c (34 + 8 * Int.toNat i))), some (.int (zI x)), some (.int (zI y)), some (.int (zI z))] [.ref (en (Int.toNat (κ 39 i))), .ref (en 4)] 7
  refine V_ordinal hK (i := Int.toNat (κ 39 i)) (by omega) (k_ordinal en (Int.toNat (κ 39 i)) (by omega)) mokJx29ce0_ordinal_8abf5 w420 w421 w423 w424 ⟨Nat.le_of_ble_eq_true rfl, Nat.le_of_ble_eq_true rfl⟩ (Nat.le_of_ble_eq_true rfl) ⟨Nat.le_of_ble_eq_true rfl, Nat.le_of_ble_eq_true rfl⟩ dX8_keepsApart_7 (fun v w p_1 => ?_)
  obtain ⟨rfl, rfl⟩ := p_1
  show V K sX8_keepsApart 0 0 (fm (cO en c κ)) [some (.ref (c (34 + 8 * Int.toNat i))), some (.int (zI x)), some (.int (zI y)), some (.int (zI z))] [.int (zI ((Int.toNat (κ 39 i) : Nat) : Int)), .ref (en 4)] 10
  refine V_ldM hK ⟨by omega, by omega⟩ dX8_keepsApart_10 ?_
  rcases (show ((Int.toNat (κ 39 i) : Nat) : Int) < 1 ∨ 3 < ((Int.toNat (κ 39 i) : Nat) : Int) ∨ ((Int.toNat (κ 39 i) : Nat) : Int) = 1 ∨ ((Int.toNat (κ 39 i) : Nat) : Int) = 2 ∨ ((Int.toNat (κ 39 i) : Nat) : Int) = 3 by omega) with c_2 | c_2 | c_2 | c_2 | c_2
  · refine V_tableOut (tgt := 109) dX8_keepsApart_11 ⟨by omega, by omega⟩ (Or.inl c_2) (by decide) ?_
    refine V_iload_n dX8_keepsApart_109 rfl ?_
    refine V_if_ne (tgt := 117) dX8_keepsApart_110 (by decide) ⟨by omega, by omega⟩ (fun c_3 => ?_) (fun c_3 => ?_)
    · refine V_iconst dX8_keepsApart_117 ?_
      refine V_goto (tgt := 122) dX8_keepsApart_118 (by decide) ?_
      show V K sX8_keepsApart 0 0 (fm (cO en c κ)) _ [.int (zI (bz true))] 122
      refine V_zret hR rfl (Nat.le_of_ble_eq_true rfl) (Nat.le_of_ble_eq_true rfl) dX8_keepsApart_122 ?_
      exact ⟨dcdT (by unfold kaP; rw [if_neg (by omega)]; rw [if_neg (by omega)]; rw [if_neg (by omega)]; omega), rfl⟩
    · refine V_iload_n dX8_keepsApart_113 rfl ?_
      refine V_if_eq (tgt := 121) dX8_keepsApart_114 (by decide) ⟨by omega, by omega⟩ (fun c_4 => ?_) (fun c_4 => ?_)
      · refine V_iconst dX8_keepsApart_121 ?_
        show V K sX8_keepsApart 0 0 (fm (cO en c κ)) _ [.int (zI (bz false))] 122
        refine V_zret hR rfl (Nat.le_of_ble_eq_true rfl) (Nat.le_of_ble_eq_true rfl) dX8_keepsApart_122 ?_
        exact ⟨dcdF (by unfold kaP; rw [if_neg (by omega)]; rw [if_neg (by omega)]; rw [if_neg (by omega)]; omega), rfl⟩
      · refine V_iconst dX8_keepsApart_117 ?_
        refine V_goto (tgt := 122) dX8_keepsApart_118 (by decide) ?_
        show V K sX8_keepsApart 0 0 (fm (cO en c κ)) _ [.int (zI (bz true))] 122
        refine V_zret hR rfl (Nat.le_of_ble_eq_true rfl) (Nat.le_of_ble_eq_true rfl) dX8_keepsApart_122 ?_
        exact ⟨dcdT (by unfold kaP; rw [if_neg (by omega)]; rw [if_neg (by omega)]; rw [if_neg (by omega)]; omega), rfl⟩
  · refine V_tableOut (tgt := 109) dX8_keepsApart_11 ⟨by omega, by omega⟩ (Or.inr c_2) (by decide) ?_
    refine V_iload_n dX8_keepsApart_109 rfl ?_
    refine V_if_ne (tgt := 117) dX8_keepsApart_110 (by decide) ⟨by omega, by omega⟩ (fun c_5 => ?_) (fun c_5 => ?_)
    · refine V_iconst dX8_keepsApart_117 ?_
      refine V_goto (tgt := 122) dX8_keepsApart_118 (by decide) ?_
      show V K sX8_keepsApart 0 0 (fm (cO en c κ)) _ [.int (zI (bz true))] 122
      refine V_zret hR rfl (Nat.le_of_ble_eq_true rfl) (Nat.le_of_ble_eq_true rfl) dX8_keepsApart_122 ?_
      exact ⟨dcdT (by unfold kaP; rw [if_neg (by omega)]; rw [if_neg (by omega)]; rw [if_neg (by omega)]; omega), rfl⟩
    · refine V_iload_n dX8_keepsApart_113 rfl ?_
      refine V_if_eq (tgt := 121) dX8_keepsApart_114 (by decide) ⟨by omega, by omega⟩ (fun c_6 => ?_) (fun c_6 => ?_)
      · refine V_iconst dX8_keepsApart_121 ?_
        show V K sX8_keepsApart 0 0 (fm (cO en c κ)) _ [.int (zI (bz false))] 122
        refine V_zret hR rfl (Nat.le_of_ble_eq_true rfl) (Nat.le_of_ble_eq_true rfl) dX8_keepsApart_122 ?_
        exact ⟨dcdF (by unfold kaP; rw [if_neg (by omega)]; rw [if_neg (by omega)]; rw [if_neg (by omega)]; omega), rfl⟩
      · refine V_iconst dX8_keepsApart_117 ?_
        refine V_goto (tgt := 122) dX8_keepsApart_118 (by decide) ?_
        show V K sX8_keepsApart 0 0 (fm (cO en c κ)) _ [.int (zI (bz true))] 122
        refine V_zret hR rfl (Nat.le_of_ble_eq_true rfl) (Nat.le_of_ble_eq_true rfl) dX8_keepsApart_122 ?_
        exact ⟨dcdT (by unfold kaP; rw [if_neg (by omega)]; rw [if_neg (by omega)]; rw [if_neg (by omega)]; omega), rfl⟩
  · refine V_tableIn (tgt := 36) dX8_keepsApart_11 ⟨by omega, by omega⟩ (by omega) (by omega) (by rw [c_2]; rfl) (by decide) ?_
    refine V_iload_n dX8_keepsApart_36 rfl ?_
    refine V_iload_n dX8_keepsApart_37 rfl ?_
    refine V_imul dX8_keepsApart_38 ?_
    refine V_iload_n dX8_keepsApart_39 rfl ?_
    refine V_iadd dX8_keepsApart_40 ?_
    refine V_aload_n dX8_keepsApart_41 rfl ?_
    refine VO_getf (C0 := RX8) (T := TX8) (N := 5) (ci := 7) (fs := wnF en κ i) (34 + 8 * Int.toNat i) 1 iwX8 (by decide) w176 (Or.inl rfl) rfl (at_wn (hw)) rfl dX8_keepsApart_42 ?_
    refine V_callSEN (As := [.int (zI ((x * z) + y)), .int (zI (κ 40 i))]) hK (k_rs en ((x * z) + y) (κ 40 i) (⟨⟨by omega, by omega⟩, ⟨by omega, by omega⟩⟩)) mokX10_restOf wn426 w427 ⟨Nat.le_of_ble_eq_true rfl, Nat.le_of_ble_eq_true rfl⟩ rfl (Nat.le_of_ble_eq_true rfl) ⟨Nat.le_of_ble_eq_true rfl, Nat.le_of_ble_eq_true rfl⟩ dX8_keepsApart_45 (fun v w p_7 => ?_)
    obtain ⟨rfl, rfl⟩ := p_7
    show V K sX8_keepsApart 0 0 (fm (cO en c κ)) [some (.ref (c (34 + 8 * Int.toNat i))), some (.int (zI x)), some (.int (zI y)), some (.int (zI z))] [.int (zI (rs ((x * z) + y) (κ 40 i)))] 48
    have r1 := rs_b (v := x * z + y) (m := κ 40 i) (by omega)
    refine V_if_eq (tgt := 55) dX8_keepsApart_48 (by decide) ⟨by omega, by omega⟩ (fun c_8 => ?_) (fun c_8 => ?_)
    · refine V_iconst dX8_keepsApart_55 ?_
      show V K sX8_keepsApart 0 0 (fm (cO en c κ)) _ [.int (zI (bz false))] 56
      refine V_zret hR rfl (Nat.le_of_ble_eq_true rfl) (Nat.le_of_ble_eq_true rfl) dX8_keepsApart_56 ?_
      exact ⟨dcdF (by unfold kaP; rw [if_pos (by omega)]; omega), rfl⟩
    · refine V_iconst dX8_keepsApart_51 ?_
      refine V_goto (tgt := 56) dX8_keepsApart_52 (by decide) ?_
      show V K sX8_keepsApart 0 0 (fm (cO en c κ)) _ [.int (zI (bz true))] 56
      refine V_zret hR rfl (Nat.le_of_ble_eq_true rfl) (Nat.le_of_ble_eq_true rfl) dX8_keepsApart_56 ?_
      exact ⟨dcdT (by unfold kaP; rw [if_pos (by omega)]; omega), rfl⟩
  · refine V_tableIn (tgt := 57) dX8_keepsApart_11 ⟨by omega, by omega⟩ (by omega) (by omega) (by rw [c_2]; rfl) (by decide) ?_
    refine V_iload_n dX8_keepsApart_57 rfl ?_
    refine V_aload_n dX8_keepsApart_58 rfl ?_
    refine VO_getf (C0 := RX8) (T := TX8) (N := 5) (ci := 7) (fs := wnF en κ i) (34 + 8 * Int.toNat i) 2 iwX8 (by decide) w178 (Or.inl rfl) rfl (at_wn (hw)) rfl dX8_keepsApart_59 ?_
    refine V_callSEN (As := [.int (zI x), .int (zI (κ 41 i))]) hK (k_rs en x (κ 41 i) (⟨⟨by omega, by omega⟩, ⟨by omega, by omega⟩⟩)) mokX10_restOf wn426 w427 ⟨Nat.le_of_ble_eq_true rfl, Nat.le_of_ble_eq_true rfl⟩ rfl (Nat.le_of_ble_eq_true rfl) ⟨Nat.le_of_ble_eq_true rfl, Nat.le_of_ble_eq_true rfl⟩ dX8_keepsApart_62 (fun v w p_9 => ?_)
    obtain ⟨rfl, rfl⟩ := p_9
    show V K sX8_keepsApart 0 0 (fm (cO en c κ)) [some (.ref (c (34 + 8 * Int.toNat i))), some (.int (zI x)), some (.int (zI y)), some (.int (zI z))] [.int (zI (rs x (κ 41 i)))] 65
    have r2 := rs_b (v := x) (m := κ 41 i) (by omega)
    refine V_if_ne (tgt := 79) dX8_keepsApart_65 (by decide) ⟨by omega, by omega⟩ (fun c_10 => ?_) (fun c_10 => ?_)
    · refine V_iconst dX8_keepsApart_79 ?_
      refine V_goto (tgt := 84) dX8_keepsApart_80 (by decide) ?_
      show V K sX8_keepsApart 0 0 (fm (cO en c κ)) _ [.int (zI (bz true))] 84
      refine V_zret hR rfl (Nat.le_of_ble_eq_true rfl) (Nat.le_of_ble_eq_true rfl) dX8_keepsApart_84 ?_
      exact ⟨dcdT (by unfold kaP; rw [if_neg (by omega)]; rw [if_pos (by omega)]; omega), rfl⟩
    · refine V_iload_n dX8_keepsApart_68 rfl ?_
      refine V_aload_n dX8_keepsApart_69 rfl ?_
      refine VO_getf (C0 := RX8) (T := TX8) (N := 5) (ci := 7) (fs := wnF en κ i) (34 + 8 * Int.toNat i) 3 iwX8 (by decide) w180 (Or.inl rfl) rfl (at_wn (hw)) rfl dX8_keepsApart_70 ?_
      refine V_callSEN (As := [.int (zI y), .int (zI (κ 42 i))]) hK (k_rs en y (κ 42 i) (⟨⟨by omega, by omega⟩, ⟨by omega, by omega⟩⟩)) mokX10_restOf wn426 w427 ⟨Nat.le_of_ble_eq_true rfl, Nat.le_of_ble_eq_true rfl⟩ rfl (Nat.le_of_ble_eq_true rfl) ⟨Nat.le_of_ble_eq_true rfl, Nat.le_of_ble_eq_true rfl⟩ dX8_keepsApart_73 (fun v w p_11 => ?_)
      obtain ⟨rfl, rfl⟩ := p_11
      show V K sX8_keepsApart 0 0 (fm (cO en c κ)) [some (.ref (c (34 + 8 * Int.toNat i))), some (.int (zI x)), some (.int (zI y)), some (.int (zI z))] [.int (zI (rs y (κ 42 i)))] 76
      have r3 := rs_b (v := y) (m := κ 42 i) (by omega)
      refine V_if_eq (tgt := 83) dX8_keepsApart_76 (by decide) ⟨by omega, by omega⟩ (fun c_12 => ?_) (fun c_12 => ?_)
      · refine V_iconst dX8_keepsApart_83 ?_
        show V K sX8_keepsApart 0 0 (fm (cO en c κ)) _ [.int (zI (bz false))] 84
        refine V_zret hR rfl (Nat.le_of_ble_eq_true rfl) (Nat.le_of_ble_eq_true rfl) dX8_keepsApart_84 ?_
        exact ⟨dcdF (by unfold kaP; rw [if_neg (by omega)]; rw [if_pos (by omega)]; omega), rfl⟩
      · refine V_iconst dX8_keepsApart_79 ?_
        refine V_goto (tgt := 84) dX8_keepsApart_80 (by decide) ?_
        show V K sX8_keepsApart 0 0 (fm (cO en c κ)) _ [.int (zI (bz true))] 84
        refine V_zret hR rfl (Nat.le_of_ble_eq_true rfl) (Nat.le_of_ble_eq_true rfl) dX8_keepsApart_84 ?_
        exact ⟨dcdT (by unfold kaP; rw [if_neg (by omega)]; rw [if_pos (by omega)]; omega), rfl⟩
  · refine V_tableIn (tgt := 85) dX8_keepsApart_11 ⟨by omega, by omega⟩ (by omega) (by omega) (by rw [c_2]; rfl) (by decide) ?_
    refine V_iload_n dX8_keepsApart_85 rfl ?_
    refine V_iload_n dX8_keepsApart_86 rfl ?_
    refine V_aload_n dX8_keepsApart_87 rfl ?_
    refine VO_getf (C0 := RX8) (T := TX8) (N := 5) (ci := 7) (fs := wnF en κ i) (34 + 8 * Int.toNat i) 4 iwX8 (by decide) w182 (Or.inl rfl) rfl (at_wn (hw)) rfl dX8_keepsApart_88 ?_
    refine V_imul dX8_keepsApart_91 ?_
    refine V_iadd dX8_keepsApart_92 ?_
    refine V_aload_n dX8_keepsApart_93 rfl ?_
    refine VO_getf (C0 := RX8) (T := TX8) (N := 5) (ci := 7) (fs := wnF en κ i) (34 + 8 * Int.toNat i) 1 iwX8 (by decide) w176 (Or.inl rfl) rfl (at_wn (hw)) rfl dX8_keepsApart_94 ?_
    refine V_callSEN (As := [.int (zI (x + (y * (κ 43 i)))), .int (zI (κ 40 i))]) hK (k_rs en (x + (y * (κ 43 i))) (κ 40 i) (⟨⟨by omega, by omega⟩, ⟨by omega, by omega⟩⟩)) mokX10_restOf wn426 w427 ⟨Nat.le_of_ble_eq_true rfl, Nat.le_of_ble_eq_true rfl⟩ rfl (Nat.le_of_ble_eq_true rfl) ⟨Nat.le_of_ble_eq_true rfl, Nat.le_of_ble_eq_true rfl⟩ dX8_keepsApart_97 (fun v w p_13 => ?_)
    obtain ⟨rfl, rfl⟩ := p_13
    show V K sX8_keepsApart 0 0 (fm (cO en c κ)) [some (.ref (c (34 + 8 * Int.toNat i))), some (.int (zI x)), some (.int (zI y)), some (.int (zI z))] [.int (zI (rs (x + (y * (κ 43 i))) (κ 40 i)))] 100
    have r4 := rs_b (v := x + y * κ 43 i) (m := κ 40 i) (by omega)
    refine V_if_eq (tgt := 107) dX8_keepsApart_100 (by decide) ⟨by omega, by omega⟩ (fun c_14 => ?_) (fun c_14 => ?_)
    · refine V_iconst dX8_keepsApart_107 ?_
      show V K sX8_keepsApart 0 0 (fm (cO en c κ)) _ [.int (zI (bz false))] 108
      refine V_zret hR rfl (Nat.le_of_ble_eq_true rfl) (Nat.le_of_ble_eq_true rfl) dX8_keepsApart_108 ?_
      exact ⟨dcdF (by unfold kaP; rw [if_neg (by omega)]; rw [if_neg (by omega)]; rw [if_pos (by omega)]; omega), rfl⟩
    · refine V_iconst dX8_keepsApart_103 ?_
      refine V_goto (tgt := 108) dX8_keepsApart_104 (by decide) ?_
      show V K sX8_keepsApart 0 0 (fm (cO en c κ)) _ [.int (zI (bz true))] 108
      refine V_zret hR rfl (Nat.le_of_ble_eq_true rfl) (Nat.le_of_ble_eq_true rfl) dX8_keepsApart_108 ?_
      exact ⟨dcdT (by unfold kaP; rw [if_neg (by omega)]; rw [if_neg (by omega)]; rw [if_pos (by omega)]; omega), rfl⟩

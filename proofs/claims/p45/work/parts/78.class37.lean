/-! the class: constructors, over plain worlds -/
section VOI
variable {K : KT} {S : SI} {k n : Nat} {ws : vWd} {L : List (Option Value)} {st : List Value} {pc : Nat}
theorem V_objInit {idx a : Nat} (hlk : Cond.methodLink S.2.1 idx ⟨"java/lang/Object", "<init>", "()V"⟩ ∈ WA) (hR : 1 ≤ S.2.2.2.2.frames ∧ 2 * 0 + (st.map fun v => v.category).sum + 12 ≤ S.2.2.2.2.locals) (d : decode S.1 pc = .ok (.invokespecial idx, 3)) (kk : V K S k n ws L st (pc + 3)) : V K S k n ws L (.ref a :: st) pc := by
  obtain ⟨p, l, e, s, m, args, below, meth, c, D, cA, A, Q, E⟩ := K
  intro C H locs ls hP hD hS hl
  exact W.objInit C.1 C.2.1 C.2.2.2.1 (C.2.2.2.2.1 _ hlk) (C.2.2.2.2.1 _ w34) (C.2.2.2.2.1 _ w35) rfl (hl.1.trans C.2.2.1.symm) rfl d hR.1 hR.2 (kk C H locs ls hP hD hS hl)
def r4 (a b c d : Nat) : Int → Option Nat := fun j => if j = 0 then some a else if j = 1 then some b else if j = 2 then some c else if j = 3 then some d else none
theorem inner_z (c : ClassId) (K' : Nat) : Jvm.Free.Multi.innerC c K' (defaultValue .int) = vp_cell c (K', .inl (zA (fun _ => 0))) := by
  rw [vp_cell_i]
  unfold Jvm.Free.Multi.innerC arrV
  congr 1
  apply Array.ext
  · simp
  · intro i h1 h2
    simp [zA, defaultValue]
    rfl
theorem V_mna {en : Nat → Nat} {K' idx : Nat} (hcl : Cond.classLink S.2.1 idx "[[I" ∈ WA) (hE : evK K = EN en) (hN : K' < 100000) (hroom : k + 5 ≤ S.2.2.2.2.cells ∧ n + (4 + 4 * K') ≤ S.2.2.2.2.slots) (d : decode S.1 pc = .ok (.multianewarray idx 2, 4)) (kk : ∀ q a b c d : Nat, V K S (k + 5) (n + (4 + 4 * K')) (ws ++ [(q, oE 4 4 (r4 a b c d)), (a, iE 0 K' (fun _ => 0)), (b, iE 0 K' (fun _ => 0)), (c, iE 0 K' (fun _ => 0)), (d, iE 0 K' (fun _ => 0))]) L (.ref q :: st) (pc + 4)) : V K S k n ws L (.int (zI (K' : Int)) :: .int (zI 4) :: st) pc := by
  obtain ⟨p, l, e, s, m, args, below, meth, c, D, cA, A, Q, E⟩ := K
  have hE' : E = EN en := hE
  subst hE'
  intro C H locs ls hP hD hS hl
  have hN0 := C.2.2.2.2.2.2.2.2.2.2.2
  have hcy := (C.2.2.2.2.2.1.2 0 _ rfl).2
  refine va_mna (X := tw cA ws) (L := []) (f := fun _ => .inl (cA 0, 0, .inl (fun _ => 0))) (N' := 4) (K' := K') (ty := .int) (z := (K', .inl (zA (fun _ => 0)))) C.1 C.2.1 C.2.2.2.1 (C.2.2.2.2.1 _ hcl) hN0.2.2.2.2.2.2.2.2.2 (C.2.2.2.2.1 _ w137) hcy C.2.2.2.2.2.1 (by simpa [va_pl] using hP) (by simpa [va_pl] using hD) hS C.2.2.2.2.2.2.1 (by decide) (by rw [Int32.lt_iff_toInt_lt, zI_toInt ⟨by omega, by omega⟩]; show ¬ (K' : Int) < 0; omega) (by decide) (by rw [zI_cl (by omega) (by omega)]; omega) (by decide) (by simp only [componentBytes]; omega) (by omega) (by decide) (by decide) (by omega) (by omega) (fun c => inner_z c K') d (fun q r cB H1 hr1 hr2 hK1 hP1 hD1 hS1 => ?_)
  have e1 := (C.2.2.2.2.2.1.2 4 _ rfl).2
  have e2 := (hK1.2 5 _ rfl).2
  have e3 : cB = cA 4 := Option.some.inj (e2.symm.trans e1)
  subst e3
  have ew : (tw cA ws ++ [(q, .inl (cA 4, 4, .inr (.inr (.inr (.inr (fun i => if i < 4 then some (r i) else none))))))]) ++ va_pl ([] ++ (List.range 4).map r) (vr_up (fun _ => .inl (cA 0, 0, .inl (fun _ => 0))) ((List.range 4).map r) (.inl (cA 0, (K', .inl (zA (fun _ => 0)))))) = tw cA (ws ++ [(q, oE 4 4 (r4 (r 0) (r 1) (r 2) (r 3))), (r 0, iE 0 K' (fun _ => 0)), (r 1, iE 0 K' (fun _ => 0)), (r 2, iE 0 K' (fun _ => 0)), (r 3, iE 0 K' (fun _ => 0))]) := by
    rw [tw_app, List.append_assoc]
    congr 1
    have ef : (fun i : Nat => if i < 4 then some (r i) else none) = rA (r4 (r 0) (r 1) (r 2) (r 3)) := by
      funext i
      unfold rA r4
      by_cases h : i < 4
      · rw [if_pos h]
        rcases (show i = 0 ∨ i = 1 ∨ i = 2 ∨ i = 3 by omega) with rfl | rfl | rfl | rfl <;> rfl
      · rw [if_neg h, if_neg (by omega), if_neg (by omega), if_neg (by omega), if_neg (by omega)]
    rw [ef]
    have el : (List.range 4).map r = [r 0, r 1, r 2, r 3] := rfl
    rw [el]
    unfold va_pl vr_up
    simp only [List.nil_append, List.map_cons, List.map_nil, List.mem_cons, List.not_mem_nil, or_false, true_or, or_true, if_true]
    rfl
  rw [ew] at hP1 hD1
  have := kk q (r 0) (r 1) (r 2) (r 3) C H1 locs ls hP1 hD1 hS1 hl
  rw [show k + 1 + 4 = k + 5 by omega, show n + 4 + 4 * K' = n + (4 + 4 * K') by omega]
  exact this
end VOI
set_option maxRecDepth 100000 in
set_option maxHeartbeats 4000000 in
theorem k_Jxa1e45_init_da8c8 (en : Nat → Nat) (a : Nat) : MC (EN en) yJxa1e45_init_da8c8 sJxa1e45_init_da8c8 [.ref a] [] (fun v w => v = none ∧ w = []) := by
  refine MC.ofI (EN.stb en) rfl [some (.ref a)] 0 rfl rfl rfl (by simp [Value.category]) (Nat.le_of_ble_eq_true rfl) (fun K hK hI hR => ?_)
  refine V_aload_n dJxa1e45_init_da8c8_0 rfl ?_
  refine V_objInit w53 ⟨Nat.le_of_ble_eq_true rfl, Nat.le_of_ble_eq_true rfl⟩ dJxa1e45_init_da8c8_1 ?_
  refine V_vret hR rfl (Nat.le_of_ble_eq_true rfl) (Nat.le_of_ble_eq_true rfl) dJxa1e45_init_da8c8_4 ?_
  exact ⟨rfl, rfl⟩
set_option maxRecDepth 100000 in
set_option maxHeartbeats 4000000 in
theorem k_Jxc12de_init_da8c8 (en : Nat → Nat) (a : Nat) : MC (EN en) yJxc12de_init_da8c8 sJxc12de_init_da8c8 [.ref a] [(a, .inr (0, [.int (zI 0), .null, .int (zI 0)]))] (fun v w => v = none ∧ w = [(a, .inr (0, [.int (zI 0), .null, .int (zI 0)]))]) := by
  refine MC.ofI (EN.stb en) rfl [some (.ref a)] 0 rfl rfl rfl (by simp [Value.category]) (Nat.le_of_ble_eq_true rfl) (fun K hK hI hR => ?_)
  refine V_aload_n dJxc12de_init_da8c8_0 rfl ?_
  -- java/util/AbstractCollection.<init>
  refine V_callIB (As := []) (b := a) (wr := [(a, .inr (0, [.int (zI 0), .null, .int (zI 0)]))]) (wc := []) rfl hK (k_Jxa1e45_init_da8c8 en a) mokJxa1e45_init_da8c8 w50 w51 rfl rfl ⟨Nat.le_of_ble_eq_true rfl, Nat.le_of_ble_eq_true rfl⟩ rfl (Nat.le_of_ble_eq_true rfl) ⟨Nat.le_of_ble_eq_true rfl, Nat.le_of_ble_eq_true rfl⟩ dJxc12de_init_da8c8_1 (fun v w p0 => ?_)
  obtain ⟨rfl, rfl⟩ := p0
  show V K sJxc12de_init_da8c8 0 0 [(a, .inr (0, [.int (zI 0), .null, .int (zI 0)]))] [some (.ref a)] [] 4
  refine V_aload_n dJxc12de_init_da8c8_4 rfl ?_
  refine V_iconst dJxc12de_init_da8c8_5 ?_
  refine V_putf (C0 := RJx4a65c) (T := TJx4a65c) (N := 3) (ci := 0) (fs := [.int (zI 0), .null, .int (zI 0)]) 0 0 iwJx4a65c (by decide) w58 (Or.inl rfl) tyJx4a65c tyJx4a65c_ok nmJx4a65c rfl rfl rfl (Nat.le_of_ble_eq_true rfl) rfl rfl dJxc12de_init_da8c8_6 ?_
  show V K sJxc12de_init_da8c8 0 0 [(a, .inr (0, [.int (zI 0), .null, .int (zI 0)]))] [some (.ref a)] [] 9
  refine V_vret hR rfl (Nat.le_of_ble_eq_true rfl) (Nat.le_of_ble_eq_true rfl) dJxc12de_init_da8c8_9 ?_
  exact ⟨rfl, rfl⟩
set_option maxRecDepth 100000 in
set_option maxHeartbeats 4000000 in
theorem k_Jx4a65c_init_da8c8 (en : Nat → Nat) (a : Nat) : MC (EN en) yJx4a65c_init_da8c8 sJx4a65c_init_da8c8 [.ref a] [(a, .inr (0, [.int (zI 0), .null, .int (zI 0)]))] (fun v w => v = none ∧ w = [(a, .inr (0, [.int (zI 0), .ref (en 5), .int (zI 0)]))]) := by
  refine MC.ofI (EN.stb en) rfl [some (.ref a)] 0 rfl rfl rfl (by simp [Value.category]) (Nat.le_of_ble_eq_true rfl) (fun K hK hI hR => ?_)
  refine V_aload_n dJx4a65c_init_da8c8_0 rfl ?_
  -- java/util/AbstractList.<init>
  refine V_callIB (As := []) (b := a) (wr := []) (wc := [(a, .inr (0, [.int (zI 0), .null, .int (zI 0)]))]) rfl hK (k_Jxc12de_init_da8c8 en a) mokJxc12de_init_da8c8 w47 w48 rfl rfl ⟨Nat.le_of_ble_eq_true rfl, Nat.le_of_ble_eq_true rfl⟩ rfl (Nat.le_of_ble_eq_true rfl) ⟨Nat.le_of_ble_eq_true rfl, Nat.le_of_ble_eq_true rfl⟩ dJx4a65c_init_da8c8_1 (fun v w p0 => ?_)
  obtain ⟨rfl, rfl⟩ := p0
  show V K sJx4a65c_init_da8c8 0 0 [(a, .inr (0, [.int (zI 0), .null, .int (zI 0)]))] [some (.ref a)] [] 4
  refine V_aload_n dJx4a65c_init_da8c8_4 rfl ?_
  refine V_getE hK w54 dJx4a65c_init_da8c8_5 ?_
  refine V_putf (C0 := RJx4a65c) (T := TJx4a65c) (N := 3) (ci := 0) (fs := [.int (zI 0), .null, .int (zI 0)]) 0 1 iwJx4a65c (by decide) w56 (Or.inl rfl) tyJx4a65c tyJx4a65c_ok nmJx4a65c rfl rfl rfl (Nat.le_of_ble_eq_true rfl) rfl rfl dJx4a65c_init_da8c8_8 ?_
  show V K sJx4a65c_init_da8c8 0 0 [(a, .inr (0, [.int (zI 0), .ref (en 5), .int (zI 0)]))] [some (.ref a)] [] 11
  refine V_vret hR rfl (Nat.le_of_ble_eq_true rfl) (Nat.le_of_ble_eq_true rfl) dJx4a65c_init_da8c8_11 ?_
  exact ⟨rfl, rfl⟩
set_option maxRecDepth 100000 in
set_option maxHeartbeats 4000000 in
theorem k_w8_init (en : Nat → Nat) (a : Nat) : MC (EN en) yX8_init sX8_init [.ref a] [(a, .inr (7, [.null, .int (zI 0), .int (zI 0), .int (zI 0), .int (zI 0)]))] (fun v w => v = none ∧ w = [(a, .inr (7, [.ref (en 0), .int (zI 1), .int (zI 1), .int (zI 1), .int (zI 0)]))]) := by
  refine MC.ofI (EN.stb en) rfl [some (.ref a)] 0 rfl rfl rfl (by simp [Value.category]) (Nat.le_of_ble_eq_true rfl) (fun K hK hI hR => ?_)
  refine V_aload_n dX8_init_0 rfl ?_
  refine V_objInit w172 ⟨Nat.le_of_ble_eq_true rfl, Nat.le_of_ble_eq_true rfl⟩ dX8_init_1 ?_
  refine V_aload_n dX8_init_4 rfl ?_
  refine V_getK hK (i := 0) (by decide) w173 dX8_init_5 ?_
  refine V_putf (C0 := RX8) (T := TX8) (N := 5) (ci := 7) (fs := [.null, .int (zI 0), .int (zI 0), .int (zI 0), .int (zI 0)]) 0 0 iwX8 (by decide) w175 (Or.inl rfl) tyX8 tyX8_ok nmX8 rfl rfl rfl (Nat.le_of_ble_eq_true rfl) rfl rfl dX8_init_8 ?_
  show V K sX8_init 0 0 [(a, .inr (7, [.ref (en 0), .int (zI 0), .int (zI 0), .int (zI 0), .int (zI 0)]))] [some (.ref a)] [] 11
  refine V_aload_n dX8_init_11 rfl ?_
  refine V_iconst dX8_init_12 ?_
  refine V_putf (C0 := RX8) (T := TX8) (N := 5) (ci := 7) (fs := [.ref (en 0), .int (zI 0), .int (zI 0), .int (zI 0), .int (zI 0)]) 0 1 iwX8 (by decide) w176 (Or.inl rfl) tyX8 tyX8_ok nmX8 rfl rfl rfl (Nat.le_of_ble_eq_true rfl) rfl rfl dX8_init_13 ?_
  show V K sX8_init 0 0 [(a, .inr (7, [.ref (en 0), .int (zI 1), .int (zI 0), .int (zI 0), .int (zI 0)]))] [some (.ref a)] [] 16
  refine V_aload_n dX8_init_16 rfl ?_
  refine V_iconst dX8_init_17 ?_
  refine V_putf (C0 := RX8) (T := TX8) (N := 5) (ci := 7) (fs := [.ref (en 0), .int (zI 1), .int (zI 0), .int (zI 0), .int (zI 0)]) 0 2 iwX8 (by decide) w178 (Or.inl rfl) tyX8 tyX8_ok nmX8 rfl rfl rfl (Nat.le_of_ble_eq_true rfl) rfl rfl dX8_init_18 ?_
  show V K sX8_init 0 0 [(a, .inr (7, [.ref (en 0), .int (zI 1), .int (zI 1), .int (zI 0), .int (zI 0)]))] [some (.ref a)] [] 21
  refine V_aload_n dX8_init_21 rfl ?_
  refine V_iconst dX8_init_22 ?_
  refine V_putf (C0 := RX8) (T := TX8) (N := 5) (ci := 7) (fs := [.ref (en 0), .int (zI 1), .int (zI 1), .int (zI 0), .int (zI 0)]) 0 3 iwX8 (by decide) w180 (Or.inl rfl) tyX8 tyX8_ok nmX8 rfl rfl rfl (Nat.le_of_ble_eq_true rfl) rfl rfl dX8_init_23 ?_
  show V K sX8_init 0 0 [(a, .inr (7, [.ref (en 0), .int (zI 1), .int (zI 1), .int (zI 1), .int (zI 0)]))] [some (.ref a)] [] 26
  refine V_aload_n dX8_init_26 rfl ?_
  refine V_iconst dX8_init_27 ?_
  refine V_putf (C0 := RX8) (T := TX8) (N := 5) (ci := 7) (fs := [.ref (en 0), .int (zI 1), .int (zI 1), .int (zI 1), .int (zI 0)]) 0 4 iwX8 (by decide) w182 (Or.inl rfl) tyX8 tyX8_ok nmX8 rfl rfl rfl (Nat.le_of_ble_eq_true rfl) rfl rfl dX8_init_28 ?_
  show V K sX8_init 0 0 [(a, .inr (7, [.ref (en 0), .int (zI 1), .int (zI 1), .int (zI 1), .int (zI 0)]))] [some (.ref a)] [] 31
  refine V_vret hR rfl (Nat.le_of_ble_eq_true rfl) (Nat.le_of_ble_eq_true rfl) dX8_init_31 ?_
  exact ⟨rfl, rfl⟩
set_option maxRecDepth 100000 in
set_option maxHeartbeats 4000000 in
theorem k_w6_init (en : Nat → Nat) (a : Nat) (s : Int) (f : Int) (r : Int) (d : Int) : MC (EN en) yX6_init sX6_init [.ref a, .int (zI s), .int (zI f), .int (zI r), .int (zI d)] [(a, .inr (5, [.int (zI 0), .int (zI 0), .int (zI 0), .int (zI 0)]))] (fun v w => v = none ∧ w = [(a, .inr (5, [.int (zI s), .int (zI f), .int (zI r), .int (zI d)]))]) := by
  refine MC.ofI (EN.stb en) rfl [some (.ref a), some (.int (zI s)), some (.int (zI f)), some (.int (zI r)), some (.int (zI d))] 0 rfl rfl rfl (by simp [Value.category]) (Nat.le_of_ble_eq_true rfl) (fun K hK hI hR => ?_)
  refine V_aload_n dX6_init_0 rfl ?_
  refine V_objInit w730 ⟨Nat.le_of_ble_eq_true rfl, Nat.le_of_ble_eq_true rfl⟩ dX6_init_1 ?_
  refine V_aload_n dX6_init_4 rfl ?_
  refine V_iload_n dX6_init_5 rfl ?_
  refine V_putF (C0 := RX6) (T := TX6) (N := 4) (ci := 5) (fs := [.int (zI 0), .int (zI 0), .int (zI 0), .int (zI 0)]) hI 0 0 iwX6 (by decide) w731 rfl tyX6 tyX6_ok nmX6 rfl rfl rfl (Nat.le_of_ble_eq_true rfl) rfl rfl dX6_init_6 ?_
  show V K sX6_init 0 0 [(a, .inr (5, [.int (zI s), .int (zI 0), .int (zI 0), .int (zI 0)]))] [some (.ref a), some (.int (zI s)), some (.int (zI f)), some (.int (zI r)), some (.int (zI d))] [] 9
  refine V_aload_n dX6_init_9 rfl ?_
  refine V_iload_n dX6_init_10 rfl ?_
  refine V_putF (C0 := RX6) (T := TX6) (N := 4) (ci := 5) (fs := [.int (zI s), .int (zI 0), .int (zI 0), .int (zI 0)]) hI 0 1 iwX6 (by decide) w735 rfl tyX6 tyX6_ok nmX6 rfl rfl rfl (Nat.le_of_ble_eq_true rfl) rfl rfl dX6_init_11 ?_
  show V K sX6_init 0 0 [(a, .inr (5, [.int (zI s), .int (zI f), .int (zI 0), .int (zI 0)]))] [some (.ref a), some (.int (zI s)), some (.int (zI f)), some (.int (zI r)), some (.int (zI d))] [] 14
  refine V_aload_n dX6_init_14 rfl ?_
  refine V_iload_n dX6_init_15 rfl ?_
  refine V_putF (C0 := RX6) (T := TX6) (N := 4) (ci := 5) (fs := [.int (zI s), .int (zI f), .int (zI 0), .int (zI 0)]) hI 0 2 iwX6 (by decide) w737 rfl tyX6 tyX6_ok nmX6 rfl rfl rfl (Nat.le_of_ble_eq_true rfl) rfl rfl dX6_init_16 ?_
  show V K sX6_init 0 0 [(a, .inr (5, [.int (zI s), .int (zI f), .int (zI r), .int (zI 0)]))] [some (.ref a), some (.int (zI s)), some (.int (zI f)), some (.int (zI r)), some (.int (zI d))] [] 19
  refine V_aload_n dX6_init_19 rfl ?_
  refine V_iload dX6_init_20 rfl ?_
  refine V_putF (C0 := RX6) (T := TX6) (N := 4) (ci := 5) (fs := [.int (zI s), .int (zI f), .int (zI r), .int (zI 0)]) hI 0 3 iwX6 (by decide) w741 rfl tyX6 tyX6_ok nmX6 rfl rfl rfl (Nat.le_of_ble_eq_true rfl) rfl rfl dX6_init_22 ?_
  show V K sX6_init 0 0 [(a, .inr (5, [.int (zI s), .int (zI f), .int (zI r), .int (zI d)]))] [some (.ref a), some (.int (zI s)), some (.int (zI f)), some (.int (zI r)), some (.int (zI d))] [] 25
  refine V_vret hR rfl (Nat.le_of_ble_eq_true rfl) (Nat.le_of_ble_eq_true rfl) dX6_init_25 ?_
  exact ⟨rfl, rfl⟩
set_option maxRecDepth 100000 in
set_option maxHeartbeats 4000000 in
theorem k_w7_init (en : Nat → Nat) (a : Nat) (x : Int) : MC (EN en) yX7_init sX7_init [.ref a, .int (zI x)] [(a, .inr (6, [.int (zI 0), .null, .null, .int (zI 0), .int (zI 0)]))] (fun v w => ∃ r_ w_ : Nat, v = none ∧ w = [(a, .inr (6, [.int (zI x), .ref r_, .ref w_, .int (zI 0), .int (zI 0)])), (r_, .inr (0, [.int (zI 0), .ref (en 5), .int (zI 0)])), (w_, .inr (7, [.ref (en 0), .int (zI 1), .int (zI 1), .int (zI 1), .int (zI 0)]))]) := by
  refine MC.ofI (EN.stb en) rfl [some (.ref a), some (.int (zI x))] 0 rfl rfl rfl (by simp [Value.category]) (Nat.le_of_ble_eq_true rfl) (fun K hK hI hR => ?_)
  refine V_aload_n dX7_init_0 rfl ?_
  refine V_objInit w608 ⟨Nat.le_of_ble_eq_true rfl, Nat.le_of_ble_eq_true rfl⟩ dX7_init_1 ?_
  refine V_aload_n dX7_init_4 rfl ?_
  refine V_new (C0 := RJx4a65c) (T := TJx4a65c) (N := 3) (ci := 0) (fs := [.int (zI 0), .null, .int (zI 0)]) iwJx4a65c tyJx4a65c tyJx4a65c_ok w609 w43 w5 rfl (fun j hj => by rcases (show j = 0 ∨ j = 1 ∨ j = 2 by omega) with rfl | rfl | rfl <;> rfl) ⟨Nat.le_of_ble_eq_true rfl, Nat.le_of_ble_eq_true rfl⟩ dX7_init_5 (fun r_ => ?_)
  show V K sX7_init 1 3 [(a, .inr (6, [.int (zI 0), .null, .null, .int (zI 0), .int (zI 0)])), (r_, .inr (0, [.int (zI 0), .null, .int (zI 0)]))] [some (.ref a), some (.int (zI x))] [.ref r_, .ref a] 8
  refine V_dup dX7_init_8 rfl ?_
  -- java/util/ArrayList.<init>
  refine V_callIB (As := []) (b := r_) (wr := [(a, .inr (6, [.int (zI 0), .null, .null, .int (zI 0), .int (zI 0)]))]) (wc := [(r_, .inr (0, [.int (zI 0), .null, .int (zI 0)]))]) rfl hK (k_Jx4a65c_init_da8c8 en r_) mokJx4a65c_init_da8c8 w610 w45 rfl rfl ⟨Nat.le_of_ble_eq_true rfl, Nat.le_of_ble_eq_true rfl⟩ rfl (Nat.le_of_ble_eq_true rfl) ⟨Nat.le_of_ble_eq_true rfl, Nat.le_of_ble_eq_true rfl⟩ dX7_init_9 (fun v w p0 => ?_)
  obtain ⟨rfl, rfl⟩ := p0
  show V K sX7_init 1 3 [(a, .inr (6, [.int (zI 0), .null, .null, .int (zI 0), .int (zI 0)])), (r_, .inr (0, [.int (zI 0), .ref (en 5), .int (zI 0)]))] [some (.ref a), some (.int (zI x))] [.ref r_, .ref a] 12
  refine V_putF (C0 := RX7) (T := TX7) (N := 5) (ci := 6) (fs := [.int (zI 0), .null, .null, .int (zI 0), .int (zI 0)]) hI 0 1 iwX7 (by decide) w615 rfl tyX7 tyX7_ok nmX7 rfl rfl rfl (Nat.le_of_ble_eq_true rfl) rfl rfl dX7_init_12 ?_
  show V K sX7_init 1 3 [(a, .inr (6, [.int (zI 0), .ref r_, .null, .int (zI 0), .int (zI 0)])), (r_, .inr (0, [.int (zI 0), .ref (en 5), .int (zI 0)]))] [some (.ref a), some (.int (zI x))] [] 15
  refine V_aload_n dX7_init_15 rfl ?_
  refine V_new (C0 := RX8) (T := TX8) (N := 5) (ci := 7) (fs := [.null, .int (zI 0), .int (zI 0), .int (zI 0), .int (zI 0)]) iwX8 tyX8 tyX8_ok w611 w168 w8 rfl (fun j hj => by rcases (show j = 0 ∨ j = 1 ∨ j = 2 ∨ j = 3 ∨ j = 4 by omega) with rfl | rfl | rfl | rfl | rfl <;> rfl) ⟨Nat.le_of_ble_eq_true rfl, Nat.le_of_ble_eq_true rfl⟩ dX7_init_16 (fun w_ => ?_)
  show V K sX7_init 2 8 [(a, .inr (6, [.int (zI 0), .ref r_, .null, .int (zI 0), .int (zI 0)])), (r_, .inr (0, [.int (zI 0), .ref (en 5), .int (zI 0)])), (w_, .inr (7, [.null, .int (zI 0), .int (zI 0), .int (zI 0), .int (zI 0)]))] [some (.ref a), some (.int (zI x))] [.ref w_, .ref a] 19
  refine V_dup dX7_init_19 rfl ?_
  -- CellWindows$Window.<init>
  refine V_callIBN (As := []) (b := w_) (wr := [(a, .inr (6, [.int (zI 0), .ref r_, .null, .int (zI 0), .int (zI 0)])), (r_, .inr (0, [.int (zI 0), .ref (en 5), .int (zI 0)]))]) (wc := [(w_, .inr (7, [.null, .int (zI 0), .int (zI 0), .int (zI 0), .int (zI 0)]))]) rfl hK (k_w8_init en w_) mokX8_init wn612 w170 rfl rfl ⟨Nat.le_of_ble_eq_true rfl, Nat.le_of_ble_eq_true rfl⟩ rfl (Nat.le_of_ble_eq_true rfl) ⟨Nat.le_of_ble_eq_true rfl, Nat.le_of_ble_eq_true rfl⟩ dX7_init_20 (fun v w p1 => ?_)
  obtain ⟨rfl, rfl⟩ := p1
  show V K sX7_init 2 8 [(a, .inr (6, [.int (zI 0), .ref r_, .null, .int (zI 0), .int (zI 0)])), (r_, .inr (0, [.int (zI 0), .ref (en 5), .int (zI 0)])), (w_, .inr (7, [.ref (en 0), .int (zI 1), .int (zI 1), .int (zI 1), .int (zI 0)]))] [some (.ref a), some (.int (zI x))] [.ref w_, .ref a] 23
  refine V_putF (C0 := RX7) (T := TX7) (N := 5) (ci := 6) (fs := [.int (zI 0), .ref r_, .null, .int (zI 0), .int (zI 0)]) hI 0 2 iwX7 (by decide) w620 rfl tyX7 tyX7_ok nmX7 rfl rfl rfl (Nat.le_of_ble_eq_true rfl) rfl rfl dX7_init_23 ?_
  show V K sX7_init 2 8 [(a, .inr (6, [.int (zI 0), .ref r_, .ref w_, .int (zI 0), .int (zI 0)])), (r_, .inr (0, [.int (zI 0), .ref (en 5), .int (zI 0)])), (w_, .inr (7, [.ref (en 0), .int (zI 1), .int (zI 1), .int (zI 1), .int (zI 0)]))] [some (.ref a), some (.int (zI x))] [] 26
  refine V_aload_n dX7_init_26 rfl ?_
  refine V_iconst dX7_init_27 ?_
  refine V_putf (C0 := RX7) (T := TX7) (N := 5) (ci := 6) (fs := [.int (zI 0), .ref r_, .ref w_, .int (zI 0), .int (zI 0)]) 0 3 iwX7 (by decide) w623 (Or.inl rfl) tyX7 tyX7_ok nmX7 rfl rfl rfl (Nat.le_of_ble_eq_true rfl) rfl rfl dX7_init_28 ?_
  show V K sX7_init 2 8 [(a, .inr (6, [.int (zI 0), .ref r_, .ref w_, .int (zI 0), .int (zI 0)])), (r_, .inr (0, [.int (zI 0), .ref (en 5), .int (zI 0)])), (w_, .inr (7, [.ref (en 0), .int (zI 1), .int (zI 1), .int (zI 1), .int (zI 0)]))] [some (.ref a), some (.int (zI x))] [] 31
  refine V_aload_n dX7_init_31 rfl ?_
  refine V_iconst dX7_init_32 ?_
  refine V_putf (C0 := RX7) (T := TX7) (N := 5) (ci := 6) (fs := [.int (zI 0), .ref r_, .ref w_, .int (zI 0), .int (zI 0)]) 0 4 iwX7 (by decide) w627 (Or.inl rfl) tyX7 tyX7_ok nmX7 rfl rfl rfl (Nat.le_of_ble_eq_true rfl) (by decide) (by decide) dX7_init_33 ?_
  show V K sX7_init 2 8 [(a, .inr (6, [.int (zI 0), .ref r_, .ref w_, .int (zI 0), .int (zI 0)])), (r_, .inr (0, [.int (zI 0), .ref (en 5), .int (zI 0)])), (w_, .inr (7, [.ref (en 0), .int (zI 1), .int (zI 1), .int (zI 1), .int (zI 0)]))] [some (.ref a), some (.int (zI x))] [] 36
  refine V_aload_n dX7_init_36 rfl ?_
  refine V_iload_n dX7_init_37 rfl ?_
  refine V_putF (C0 := RX7) (T := TX7) (N := 5) (ci := 6) (fs := [.int (zI 0), .ref r_, .ref w_, .int (zI 0), .int (zI 0)]) hI 0 0 iwX7 (by decide) w613 rfl tyX7 tyX7_ok nmX7 rfl rfl rfl (Nat.le_of_ble_eq_true rfl) rfl rfl dX7_init_38 ?_
  show V K sX7_init 2 8 [(a, .inr (6, [.int (zI x), .ref r_, .ref w_, .int (zI 0), .int (zI 0)])), (r_, .inr (0, [.int (zI 0), .ref (en 5), .int (zI 0)])), (w_, .inr (7, [.ref (en 0), .int (zI 1), .int (zI 1), .int (zI 1), .int (zI 0)]))] [some (.ref a), some (.int (zI x))] [] 41
  refine V_vret hR rfl (Nat.le_of_ble_eq_true rfl) (Nat.le_of_ble_eq_true rfl) dX7_init_41 ?_
  exact ⟨r_, w_, rfl, rfl⟩
set_option maxRecDepth 100000 in
set_option maxHeartbeats 4000000 in
theorem k_w5_init (en : Nat → Nat) (a : Nat) : MC (EN en) yX5_init sX5_init [.ref a] [(a, .inr (4, [.null, .int (zI 0), .int (zI 0), .int (zI 0)]))] (fun v w => ∃ r_ : Nat, v = none ∧ w = [(a, .inr (4, [.ref r_, .int (zI 4), .int (zI 4), .int (zI 16)])), (r_, .inr (0, [.int (zI 0), .ref (en 5), .int (zI 0)]))]) := by
  refine MC.ofI (EN.stb en) rfl [some (.ref a)] 0 rfl rfl rfl (by simp [Value.category]) (Nat.le_of_ble_eq_true rfl) (fun K hK hI hR => ?_)
  refine V_aload_n dX5_init_0 rfl ?_
  refine V_objInit w41 ⟨Nat.le_of_ble_eq_true rfl, Nat.le_of_ble_eq_true rfl⟩ dX5_init_1 ?_
  refine V_aload_n dX5_init_4 rfl ?_
  refine V_new (C0 := RJx4a65c) (T := TJx4a65c) (N := 3) (ci := 0) (fs := [.int (zI 0), .null, .int (zI 0)]) iwJx4a65c tyJx4a65c tyJx4a65c_ok w42 w43 w5 rfl (fun j hj => by rcases (show j = 0 ∨ j = 1 ∨ j = 2 by omega) with rfl | rfl | rfl <;> rfl) ⟨Nat.le_of_ble_eq_true rfl, Nat.le_of_ble_eq_true rfl⟩ dX5_init_5 (fun r_ => ?_)
  show V K sX5_init 1 3 [(a, .inr (4, [.null, .int (zI 0), .int (zI 0), .int (zI 0)])), (r_, .inr (0, [.int (zI 0), .null, .int (zI 0)]))] [some (.ref a)] [.ref r_, .ref a] 8
  refine V_dup dX5_init_8 rfl ?_
  -- java/util/ArrayList.<init>
  refine V_callIB (As := []) (b := r_) (wr := [(a, .inr (4, [.null, .int (zI 0), .int (zI 0), .int (zI 0)]))]) (wc := [(r_, .inr (0, [.int (zI 0), .null, .int (zI 0)]))]) rfl hK (k_Jx4a65c_init_da8c8 en r_) mokJx4a65c_init_da8c8 w44 w45 rfl rfl ⟨Nat.le_of_ble_eq_true rfl, Nat.le_of_ble_eq_true rfl⟩ rfl (Nat.le_of_ble_eq_true rfl) ⟨Nat.le_of_ble_eq_true rfl, Nat.le_of_ble_eq_true rfl⟩ dX5_init_9 (fun v w p0 => ?_)
  obtain ⟨rfl, rfl⟩ := p0
  show V K sX5_init 1 3 [(a, .inr (4, [.null, .int (zI 0), .int (zI 0), .int (zI 0)])), (r_, .inr (0, [.int (zI 0), .ref (en 5), .int (zI 0)]))] [some (.ref a)] [.ref r_, .ref a] 12
  refine V_putF (C0 := RX5) (T := TX5) (N := 4) (ci := 4) (fs := [.null, .int (zI 0), .int (zI 0), .int (zI 0)]) hI 0 0 iwX5 (by decide) w68 rfl tyX5 tyX5_ok nmX5 rfl rfl rfl (Nat.le_of_ble_eq_true rfl) rfl rfl dX5_init_12 ?_
  show V K sX5_init 1 3 [(a, .inr (4, [.ref r_, .int (zI 0), .int (zI 0), .int (zI 0)])), (r_, .inr (0, [.int (zI 0), .ref (en 5), .int (zI 0)]))] [some (.ref a)] [] 15
  refine V_aload_n dX5_init_15 rfl ?_
  refine V_iconst dX5_init_16 ?_
  refine V_putf (C0 := RX5) (T := TX5) (N := 4) (ci := 4) (fs := [.ref r_, .int (zI 0), .int (zI 0), .int (zI 0)]) 0 1 iwX5 (by decide) w72 (Or.inl rfl) tyX5 tyX5_ok nmX5 rfl rfl rfl (Nat.le_of_ble_eq_true rfl) rfl rfl dX5_init_17 ?_
  show V K sX5_init 1 3 [(a, .inr (4, [.ref r_, .int (zI 4), .int (zI 0), .int (zI 0)])), (r_, .inr (0, [.int (zI 0), .ref (en 5), .int (zI 0)]))] [some (.ref a)] [] 20
  refine V_aload_n dX5_init_20 rfl ?_
  refine V_iconst dX5_init_21 ?_
  refine V_putf (C0 := RX5) (T := TX5) (N := 4) (ci := 4) (fs := [.ref r_, .int (zI 4), .int (zI 0), .int (zI 0)]) 0 2 iwX5 (by decide) w75 (Or.inl rfl) tyX5 tyX5_ok nmX5 rfl rfl rfl (Nat.le_of_ble_eq_true rfl) rfl rfl dX5_init_22 ?_
  show V K sX5_init 1 3 [(a, .inr (4, [.ref r_, .int (zI 4), .int (zI 4), .int (zI 0)])), (r_, .inr (0, [.int (zI 0), .ref (en 5), .int (zI 0)]))] [some (.ref a)] [] 25
  refine V_aload_n dX5_init_25 rfl ?_
  refine V_bipush dX5_init_26 (by decide) ?_
  refine V_putf (C0 := RX5) (T := TX5) (N := 4) (ci := 4) (fs := [.ref r_, .int (zI 4), .int (zI 4), .int (zI 0)]) 0 3 iwX5 (by decide) w80 (Or.inl rfl) tyX5 tyX5_ok nmX5 rfl rfl rfl (Nat.le_of_ble_eq_true rfl) rfl rfl dX5_init_28 ?_
  show V K sX5_init 1 3 [(a, .inr (4, [.ref r_, .int (zI 4), .int (zI 4), .int (zI 16)])), (r_, .inr (0, [.int (zI 0), .ref (en 5), .int (zI 0)]))] [some (.ref a)] [] 31
  refine V_vret hR rfl (Nat.le_of_ble_eq_true rfl) (Nat.le_of_ble_eq_true rfl) dX5_init_31 ?_
  exact ⟨r_, rfl, rfl⟩
set_option maxRecDepth 100000 in
set_option maxHeartbeats 4000000 in
theorem k_w1_init (en : Nat → Nat) (a : Nat) : MC (EN en) yX1_init sX1_init [.ref a] [(a, .inr (1, [.int (zI 0), .int (zI 0), .int (zI 0), .int (zI 0)]))] (fun v w => v = none ∧ w = [(a, .inr (1, [.int (zI 0), .int (zI 0), .int (zI 0), .int (zI 0)]))]) := by
  refine MC.ofI (EN.stb en) rfl [some (.ref a)] 0 rfl rfl rfl (by simp [Value.category]) (Nat.le_of_ble_eq_true rfl) (fun K hK hI hR => ?_)
  refine V_aload_n dX1_init_0 rfl ?_
  refine V_objInit w215 ⟨Nat.le_of_ble_eq_true rfl, Nat.le_of_ble_eq_true rfl⟩ dX1_init_1 ?_
  refine V_aload_n dX1_init_4 rfl ?_
  refine V_iconst dX1_init_5 ?_
  refine V_putf (C0 := RX1) (T := TX1) (N := 4) (ci := 1) (fs := [.int (zI 0), .int (zI 0), .int (zI 0), .int (zI 0)]) 0 0 iwX1 (by decide) w216 (Or.inl rfl) tyX1 tyX1_ok nmX1 rfl rfl rfl (Nat.le_of_ble_eq_true rfl) (by decide) (by decide) dX1_init_6 ?_
  show V K sX1_init 0 0 [(a, .inr (1, [.int (zI 0), .int (zI 0), .int (zI 0), .int (zI 0)]))] [some (.ref a)] [] 9
  refine V_aload_n dX1_init_9 rfl ?_
  refine V_iconst dX1_init_10 ?_
  refine V_putf (C0 := RX1) (T := TX1) (N := 4) (ci := 1) (fs := [.int (zI 0), .int (zI 0), .int (zI 0), .int (zI 0)]) 0 1 iwX1 (by decide) w218 (Or.inl rfl) tyX1 tyX1_ok nmX1 rfl rfl rfl (Nat.le_of_ble_eq_true rfl) rfl rfl dX1_init_11 ?_
  show V K sX1_init 0 0 [(a, .inr (1, [.int (zI 0), .int (zI 0), .int (zI 0), .int (zI 0)]))] [some (.ref a)] [] 14
  refine V_aload_n dX1_init_14 rfl ?_
  refine V_iconst dX1_init_15 ?_
  refine V_putf (C0 := RX1) (T := TX1) (N := 4) (ci := 1) (fs := [.int (zI 0), .int (zI 0), .int (zI 0), .int (zI 0)]) 0 2 iwX1 (by decide) w220 (Or.inl rfl) tyX1 tyX1_ok nmX1 rfl rfl rfl (Nat.le_of_ble_eq_true rfl) rfl rfl dX1_init_16 ?_
  show V K sX1_init 0 0 [(a, .inr (1, [.int (zI 0), .int (zI 0), .int (zI 0), .int (zI 0)]))] [some (.ref a)] [] 19
  refine V_aload_n dX1_init_19 rfl ?_
  refine V_iconst dX1_init_20 ?_
  refine V_putf (C0 := RX1) (T := TX1) (N := 4) (ci := 1) (fs := [.int (zI 0), .int (zI 0), .int (zI 0), .int (zI 0)]) 0 3 iwX1 (by decide) w222 (Or.inl rfl) tyX1 tyX1_ok nmX1 rfl rfl rfl (Nat.le_of_ble_eq_true rfl) rfl rfl dX1_init_21 ?_
  show V K sX1_init 0 0 [(a, .inr (1, [.int (zI 0), .int (zI 0), .int (zI 0), .int (zI 0)]))] [some (.ref a)] [] 24
  refine V_vret hR rfl (Nat.le_of_ble_eq_true rfl) (Nat.le_of_ble_eq_true rfl) dX1_init_24 ?_
  exact ⟨rfl, rfl⟩
set_option maxRecDepth 100000 in
set_option maxHeartbeats 4000000 in
theorem k_w2_init (en : Nat → Nat) (a : Nat) : MC (EN en) yX2_init sX2_init [.ref a] [(a, .inr (2, [.null, .null, .null, .null, .int (zI 0), .int (zI 0), .int (zI 0)]))] (fun v w => ∃ q1 q2 q3 q4 : Nat, v = none ∧ w = [(a, .inr (2, [.ref q1, .ref q2, .ref q3, .ref q4, .int (zI 0), .int (zI 4), .int (zI 4)])), (q1, iE 1 225 (fun _ => 0)), (q2, iE 0 225 (fun _ => 0)), (q3, iE 0 225 (fun _ => 0)), (q4, iE 1 64 (fun _ => 0))]) := by
  refine MC.ofI (EN.stb en) rfl [some (.ref a)] 0 rfl rfl rfl (by simp [Value.category]) (Nat.le_of_ble_eq_true rfl) (fun K hK hI hR => ?_)
  refine V_aload_n dX2_init_0 rfl ?_
  refine V_objInit w143 ⟨Nat.le_of_ble_eq_true rfl, Nat.le_of_ble_eq_true rfl⟩ dX2_init_1 ?_
  refine V_aload_n dX2_init_4 rfl ?_
  refine V_sipush dX2_init_5 (by decide) ?_
  refine V_newa_z (N := 225) w166 rfl (by decide) ⟨Nat.le_of_ble_eq_true rfl, Nat.le_of_ble_eq_true rfl⟩ dX2_init_8 (fun q1 => ?_)
  show V K sX2_init 1 225 [(a, .inr (2, [.null, .null, .null, .null, .int (zI 0), .int (zI 0), .int (zI 0)])), (q1, iE 1 225 (fun _ => 0))] [some (.ref a)] [.ref q1, .ref a] 10
  refine V_putF (C0 := RX2) (T := TX2) (N := 7) (ci := 2) (fs := [.null, .null, .null, .null, .int (zI 0), .int (zI 0), .int (zI 0)]) hI 0 0 iwX2 (by decide) w144 rfl tyX2 tyX2_ok nmX2 rfl rfl rfl (Nat.le_of_ble_eq_true rfl) rfl rfl dX2_init_10 ?_
  show V K sX2_init 1 225 [(a, .inr (2, [.ref q1, .null, .null, .null, .int (zI 0), .int (zI 0), .int (zI 0)])), (q1, iE 1 225 (fun _ => 0))] [some (.ref a)] [] 13
  refine V_aload_n dX2_init_13 rfl ?_
  refine V_sipush dX2_init_14 (by decide) ?_
  refine V_newa_i (N := 225) w137 rfl (by decide) ⟨Nat.le_of_ble_eq_true rfl, Nat.le_of_ble_eq_true rfl⟩ dX2_init_17 (fun q2 => ?_)
  show V K sX2_init 2 450 [(a, .inr (2, [.ref q1, .null, .null, .null, .int (zI 0), .int (zI 0), .int (zI 0)])), (q1, iE 1 225 (fun _ => 0)), (q2, iE 0 225 (fun _ => 0))] [some (.ref a)] [.ref q2, .ref a] 19
  refine V_putF (C0 := RX2) (T := TX2) (N := 7) (ci := 2) (fs := [.ref q1, .null, .null, .null, .int (zI 0), .int (zI 0), .int (zI 0)]) hI 0 1 iwX2 (by decide) w145 rfl tyX2 tyX2_ok nmX2 rfl rfl rfl (Nat.le_of_ble_eq_true rfl) rfl rfl dX2_init_19 ?_
  show V K sX2_init 2 450 [(a, .inr (2, [.ref q1, .ref q2, .null, .null, .int (zI 0), .int (zI 0), .int (zI 0)])), (q1, iE 1 225 (fun _ => 0)), (q2, iE 0 225 (fun _ => 0))] [some (.ref a)] [] 22
  refine V_aload_n dX2_init_22 rfl ?_
  refine V_sipush dX2_init_23 (by decide) ?_
  refine V_newa_i (N := 225) w137 rfl (by decide) ⟨Nat.le_of_ble_eq_true rfl, Nat.le_of_ble_eq_true rfl⟩ dX2_init_26 (fun q3 => ?_)
  show V K sX2_init 3 675 [(a, .inr (2, [.ref q1, .ref q2, .null, .null, .int (zI 0), .int (zI 0), .int (zI 0)])), (q1, iE 1 225 (fun _ => 0)), (q2, iE 0 225 (fun _ => 0)), (q3, iE 0 225 (fun _ => 0))] [some (.ref a)] [.ref q3, .ref a] 28
  refine V_putF (C0 := RX2) (T := TX2) (N := 7) (ci := 2) (fs := [.ref q1, .ref q2, .null, .null, .int (zI 0), .int (zI 0), .int (zI 0)]) hI 0 2 iwX2 (by decide) w146 rfl tyX2 tyX2_ok nmX2 rfl rfl rfl (Nat.le_of_ble_eq_true rfl) rfl rfl dX2_init_28 ?_
  show V K sX2_init 3 675 [(a, .inr (2, [.ref q1, .ref q2, .ref q3, .null, .int (zI 0), .int (zI 0), .int (zI 0)])), (q1, iE 1 225 (fun _ => 0)), (q2, iE 0 225 (fun _ => 0)), (q3, iE 0 225 (fun _ => 0))] [some (.ref a)] [] 31
  refine V_aload_n dX2_init_31 rfl ?_
  refine V_bipush dX2_init_32 (by decide) ?_
  refine V_newa_z (N := 64) w166 rfl (by decide) ⟨Nat.le_of_ble_eq_true rfl, Nat.le_of_ble_eq_true rfl⟩ dX2_init_34 (fun q4 => ?_)
  show V K sX2_init 4 739 [(a, .inr (2, [.ref q1, .ref q2, .ref q3, .null, .int (zI 0), .int (zI 0), .int (zI 0)])), (q1, iE 1 225 (fun _ => 0)), (q2, iE 0 225 (fun _ => 0)), (q3, iE 0 225 (fun _ => 0)), (q4, iE 1 64 (fun _ => 0))] [some (.ref a)] [.ref q4, .ref a] 36
  refine V_putF (C0 := RX2) (T := TX2) (N := 7) (ci := 2) (fs := [.ref q1, .ref q2, .ref q3, .null, .int (zI 0), .int (zI 0), .int (zI 0)]) hI 0 3 iwX2 (by decide) w147 rfl tyX2 tyX2_ok nmX2 rfl rfl rfl (Nat.le_of_ble_eq_true rfl) rfl rfl dX2_init_36 ?_
  show V K sX2_init 4 739 [(a, .inr (2, [.ref q1, .ref q2, .ref q3, .ref q4, .int (zI 0), .int (zI 0), .int (zI 0)])), (q1, iE 1 225 (fun _ => 0)), (q2, iE 0 225 (fun _ => 0)), (q3, iE 0 225 (fun _ => 0)), (q4, iE 1 64 (fun _ => 0))] [some (.ref a)] [] 39
  refine V_aload_n dX2_init_39 rfl ?_
  refine V_iconst dX2_init_40 ?_
  refine V_putf (C0 := RX2) (T := TX2) (N := 7) (ci := 2) (fs := [.ref q1, .ref q2, .ref q3, .ref q4, .int (zI 0), .int (zI 0), .int (zI 0)]) 0 4 iwX2 (by decide) w148 (Or.inl rfl) tyX2 tyX2_ok nmX2 rfl rfl rfl (Nat.le_of_ble_eq_true rfl) rfl rfl dX2_init_41 ?_
  show V K sX2_init 4 739 [(a, .inr (2, [.ref q1, .ref q2, .ref q3, .ref q4, .int (zI 0), .int (zI 0), .int (zI 0)])), (q1, iE 1 225 (fun _ => 0)), (q2, iE 0 225 (fun _ => 0)), (q3, iE 0 225 (fun _ => 0)), (q4, iE 1 64 (fun _ => 0))] [some (.ref a)] [] 44
  refine V_aload_n dX2_init_44 rfl ?_
  refine V_iconst dX2_init_45 ?_
  refine V_putf (C0 := RX2) (T := TX2) (N := 7) (ci := 2) (fs := [.ref q1, .ref q2, .ref q3, .ref q4, .int (zI 0), .int (zI 0), .int (zI 0)]) 0 5 iwX2 (by decide) w149 (Or.inl rfl) tyX2 tyX2_ok nmX2 rfl rfl rfl (Nat.le_of_ble_eq_true rfl) rfl rfl dX2_init_46 ?_
  show V K sX2_init 4 739 [(a, .inr (2, [.ref q1, .ref q2, .ref q3, .ref q4, .int (zI 0), .int (zI 4), .int (zI 0)])), (q1, iE 1 225 (fun _ => 0)), (q2, iE 0 225 (fun _ => 0)), (q3, iE 0 225 (fun _ => 0)), (q4, iE 1 64 (fun _ => 0))] [some (.ref a)] [] 49
  refine V_aload_n dX2_init_49 rfl ?_
  refine V_iconst dX2_init_50 ?_
  refine V_putf (C0 := RX2) (T := TX2) (N := 7) (ci := 2) (fs := [.ref q1, .ref q2, .ref q3, .ref q4, .int (zI 0), .int (zI 4), .int (zI 0)]) 0 6 iwX2 (by decide) w150 (Or.inl rfl) tyX2 tyX2_ok nmX2 rfl rfl rfl (Nat.le_of_ble_eq_true rfl) rfl rfl dX2_init_51 ?_
  show V K sX2_init 4 739 [(a, .inr (2, [.ref q1, .ref q2, .ref q3, .ref q4, .int (zI 0), .int (zI 4), .int (zI 4)])), (q1, iE 1 225 (fun _ => 0)), (q2, iE 0 225 (fun _ => 0)), (q3, iE 0 225 (fun _ => 0)), (q4, iE 1 64 (fun _ => 0))] [some (.ref a)] [] 54
  refine V_vret hR rfl (Nat.le_of_ble_eq_true rfl) (Nat.le_of_ble_eq_true rfl) dX2_init_54 ?_
  exact ⟨q1, q2, q3, q4, rfl, rfl⟩
set_option maxRecDepth 100000 in
set_option maxHeartbeats 4000000 in
theorem k_w9_init (en : Nat → Nat) (a : Nat) : MC (EN en) yX9_init sX9_init [.ref a] [(a, .inr (8, [.null, .null, .null, .null, .null, .null, .null, .null, .null, .int (zI 0)]))] (fun v w => ∃ q1 q2 q3 q4 q5 q6 q7 q8 q9 : Nat, v = none ∧ w = [(a, .inr (8, [.ref q1, .ref q2, .ref q3, .ref q4, .ref q5, .ref q6, .ref q7, .ref q8, .ref q9, .int (zI 0)])), (q1, iE 0 256 (fun _ => 0)), (q2, iE 0 256 (fun _ => 0)), (q3, iE 0 256 (fun _ => 0)), (q4, iE 0 256 (fun _ => 0)), (q5, iE 0 256 (fun _ => 0)), (q6, iE 0 256 (fun _ => 0)), (q7, iE 0 256 (fun _ => 0)), (q8, iE 0 158 (fun _ => 0)), (q9, iE 0 258 (fun _ => 0))]) := by
  refine MC.ofI (EN.stb en) rfl [some (.ref a)] 0 rfl rfl rfl (by simp [Value.category]) (Nat.le_of_ble_eq_true rfl) (fun K hK hI hR => ?_)
  refine V_aload_n dX9_init_0 rfl ?_
  refine V_objInit w96 ⟨Nat.le_of_ble_eq_true rfl, Nat.le_of_ble_eq_true rfl⟩ dX9_init_1 ?_
  refine V_aload_n dX9_init_4 rfl ?_
  refine V_sipush dX9_init_5 (by decide) ?_
  refine V_newa_i (N := 256) w137 rfl (by decide) ⟨Nat.le_of_ble_eq_true rfl, Nat.le_of_ble_eq_true rfl⟩ dX9_init_8 (fun q1 => ?_)
  show V K sX9_init 1 256 [(a, .inr (8, [.null, .null, .null, .null, .null, .null, .null, .null, .null, .int (zI 0)])), (q1, iE 0 256 (fun _ => 0))] [some (.ref a)] [.ref q1, .ref a] 10
  refine V_putF (C0 := RX9) (T := TX9) (N := 10) (ci := 8) (fs := [.null, .null, .null, .null, .null, .null, .null, .null, .null, .int (zI 0)]) hI 0 0 iwX9 (by decide) w97 rfl tyX9 tyX9_ok nmX9 rfl rfl rfl (Nat.le_of_ble_eq_true rfl) rfl rfl dX9_init_10 ?_
  show V K sX9_init 1 256 [(a, .inr (8, [.ref q1, .null, .null, .null, .null, .null, .null, .null, .null, .int (zI 0)])), (q1, iE 0 256 (fun _ => 0))] [some (.ref a)] [] 13
  refine V_aload_n dX9_init_13 rfl ?_
  refine V_sipush dX9_init_14 (by decide) ?_
  refine V_newa_i (N := 256) w137 rfl (by decide) ⟨Nat.le_of_ble_eq_true rfl, Nat.le_of_ble_eq_true rfl⟩ dX9_init_17 (fun q2 => ?_)
  show V K sX9_init 2 512 [(a, .inr (8, [.ref q1, .null, .null, .null, .null, .null, .null, .null, .null, .int (zI 0)])), (q1, iE 0 256 (fun _ => 0)), (q2, iE 0 256 (fun _ => 0))] [some (.ref a)] [.ref q2, .ref a] 19
  refine V_putF (C0 := RX9) (T := TX9) (N := 10) (ci := 8) (fs := [.ref q1, .null, .null, .null, .null, .null, .null, .null, .null, .int (zI 0)]) hI 0 1 iwX9 (by decide) w100 rfl tyX9 tyX9_ok nmX9 rfl rfl rfl (Nat.le_of_ble_eq_true rfl) rfl rfl dX9_init_19 ?_
  show V K sX9_init 2 512 [(a, .inr (8, [.ref q1, .ref q2, .null, .null, .null, .null, .null, .null, .null, .int (zI 0)])), (q1, iE 0 256 (fun _ => 0)), (q2, iE 0 256 (fun _ => 0))] [some (.ref a)] [] 22
  refine V_aload_n dX9_init_22 rfl ?_
  refine V_sipush dX9_init_23 (by decide) ?_
  refine V_newa_i (N := 256) w137 rfl (by decide) ⟨Nat.le_of_ble_eq_true rfl, Nat.le_of_ble_eq_true rfl⟩ dX9_init_26 (fun q3 => ?_)
  show V K sX9_init 3 768 [(a, .inr (8, [.ref q1, .ref q2, .null, .null, .null, .null, .null, .null, .null, .int (zI 0)])), (q1, iE 0 256 (fun _ => 0)), (q2, iE 0 256 (fun _ => 0)), (q3, iE 0 256 (fun _ => 0))] [some (.ref a)] [.ref q3, .ref a] 28
  refine V_putF (C0 := RX9) (T := TX9) (N := 10) (ci := 8) (fs := [.ref q1, .ref q2, .null, .null, .null, .null, .null, .null, .null, .int (zI 0)]) hI 0 2 iwX9 (by decide) w103 rfl tyX9 tyX9_ok nmX9 rfl rfl rfl (Nat.le_of_ble_eq_true rfl) rfl rfl dX9_init_28 ?_
  show V K sX9_init 3 768 [(a, .inr (8, [.ref q1, .ref q2, .ref q3, .null, .null, .null, .null, .null, .null, .int (zI 0)])), (q1, iE 0 256 (fun _ => 0)), (q2, iE 0 256 (fun _ => 0)), (q3, iE 0 256 (fun _ => 0))] [some (.ref a)] [] 31
  refine V_aload_n dX9_init_31 rfl ?_
  refine V_sipush dX9_init_32 (by decide) ?_
  refine V_newa_i (N := 256) w137 rfl (by decide) ⟨Nat.le_of_ble_eq_true rfl, Nat.le_of_ble_eq_true rfl⟩ dX9_init_35 (fun q4 => ?_)
  show V K sX9_init 4 1024 [(a, .inr (8, [.ref q1, .ref q2, .ref q3, .null, .null, .null, .null, .null, .null, .int (zI 0)])), (q1, iE 0 256 (fun _ => 0)), (q2, iE 0 256 (fun _ => 0)), (q3, iE 0 256 (fun _ => 0)), (q4, iE 0 256 (fun _ => 0))] [some (.ref a)] [.ref q4, .ref a] 37
  refine V_putF (C0 := RX9) (T := TX9) (N := 10) (ci := 8) (fs := [.ref q1, .ref q2, .ref q3, .null, .null, .null, .null, .null, .null, .int (zI 0)]) hI 0 3 iwX9 (by decide) w106 rfl tyX9 tyX9_ok nmX9 rfl rfl rfl (Nat.le_of_ble_eq_true rfl) rfl rfl dX9_init_37 ?_
  show V K sX9_init 4 1024 [(a, .inr (8, [.ref q1, .ref q2, .ref q3, .ref q4, .null, .null, .null, .null, .null, .int (zI 0)])), (q1, iE 0 256 (fun _ => 0)), (q2, iE 0 256 (fun _ => 0)), (q3, iE 0 256 (fun _ => 0)), (q4, iE 0 256 (fun _ => 0))] [some (.ref a)] [] 40
  refine V_aload_n dX9_init_40 rfl ?_
  refine V_sipush dX9_init_41 (by decide) ?_
  refine V_newa_i (N := 256) w137 rfl (by decide) ⟨Nat.le_of_ble_eq_true rfl, Nat.le_of_ble_eq_true rfl⟩ dX9_init_44 (fun q5 => ?_)
  show V K sX9_init 5 1280 [(a, .inr (8, [.ref q1, .ref q2, .ref q3, .ref q4, .null, .null, .null, .null, .null, .int (zI 0)])), (q1, iE 0 256 (fun _ => 0)), (q2, iE 0 256 (fun _ => 0)), (q3, iE 0 256 (fun _ => 0)), (q4, iE 0 256 (fun _ => 0)), (q5, iE 0 256 (fun _ => 0))] [some (.ref a)] [.ref q5, .ref a] 46
  refine V_putF (C0 := RX9) (T := TX9) (N := 10) (ci := 8) (fs := [.ref q1, .ref q2, .ref q3, .ref q4, .null, .null, .null, .null, .null, .int (zI 0)]) hI 0 4 iwX9 (by decide) w108 rfl tyX9 tyX9_ok nmX9 rfl rfl rfl (Nat.le_of_ble_eq_true rfl) rfl rfl dX9_init_46 ?_
  show V K sX9_init 5 1280 [(a, .inr (8, [.ref q1, .ref q2, .ref q3, .ref q4, .ref q5, .null, .null, .null, .null, .int (zI 0)])), (q1, iE 0 256 (fun _ => 0)), (q2, iE 0 256 (fun _ => 0)), (q3, iE 0 256 (fun _ => 0)), (q4, iE 0 256 (fun _ => 0)), (q5, iE 0 256 (fun _ => 0))] [some (.ref a)] [] 49
  refine V_aload_n dX9_init_49 rfl ?_
  refine V_sipush dX9_init_50 (by decide) ?_
  refine V_newa_i (N := 256) w137 rfl (by decide) ⟨Nat.le_of_ble_eq_true rfl, Nat.le_of_ble_eq_true rfl⟩ dX9_init_53 (fun q6 => ?_)
  show V K sX9_init 6 1536 [(a, .inr (8, [.ref q1, .ref q2, .ref q3, .ref q4, .ref q5, .null, .null, .null, .null, .int (zI 0)])), (q1, iE 0 256 (fun _ => 0)), (q2, iE 0 256 (fun _ => 0)), (q3, iE 0 256 (fun _ => 0)), (q4, iE 0 256 (fun _ => 0)), (q5, iE 0 256 (fun _ => 0)), (q6, iE 0 256 (fun _ => 0))] [some (.ref a)] [.ref q6, .ref a] 55
  refine V_putF (C0 := RX9) (T := TX9) (N := 10) (ci := 8) (fs := [.ref q1, .ref q2, .ref q3, .ref q4, .ref q5, .null, .null, .null, .null, .int (zI 0)]) hI 0 5 iwX9 (by decide) w110 rfl tyX9 tyX9_ok nmX9 rfl rfl rfl (Nat.le_of_ble_eq_true rfl) rfl rfl dX9_init_55 ?_
  show V K sX9_init 6 1536 [(a, .inr (8, [.ref q1, .ref q2, .ref q3, .ref q4, .ref q5, .ref q6, .null, .null, .null, .int (zI 0)])), (q1, iE 0 256 (fun _ => 0)), (q2, iE 0 256 (fun _ => 0)), (q3, iE 0 256 (fun _ => 0)), (q4, iE 0 256 (fun _ => 0)), (q5, iE 0 256 (fun _ => 0)), (q6, iE 0 256 (fun _ => 0))] [some (.ref a)] [] 58
  refine V_aload_n dX9_init_58 rfl ?_
  refine V_sipush dX9_init_59 (by decide) ?_
  refine V_newa_i (N := 256) w137 rfl (by decide) ⟨Nat.le_of_ble_eq_true rfl, Nat.le_of_ble_eq_true rfl⟩ dX9_init_62 (fun q7 => ?_)
  show V K sX9_init 7 1792 [(a, .inr (8, [.ref q1, .ref q2, .ref q3, .ref q4, .ref q5, .ref q6, .null, .null, .null, .int (zI 0)])), (q1, iE 0 256 (fun _ => 0)), (q2, iE 0 256 (fun _ => 0)), (q3, iE 0 256 (fun _ => 0)), (q4, iE 0 256 (fun _ => 0)), (q5, iE 0 256 (fun _ => 0)), (q6, iE 0 256 (fun _ => 0)), (q7, iE 0 256 (fun _ => 0))] [some (.ref a)] [.ref q7, .ref a] 64
  refine V_putF (C0 := RX9) (T := TX9) (N := 10) (ci := 8) (fs := [.ref q1, .ref q2, .ref q3, .ref q4, .ref q5, .ref q6, .null, .null, .null, .int (zI 0)]) hI 0 6 iwX9 (by decide) w112 rfl tyX9 tyX9_ok nmX9 rfl rfl rfl (Nat.le_of_ble_eq_true rfl) rfl rfl dX9_init_64 ?_
  show V K sX9_init 7 1792 [(a, .inr (8, [.ref q1, .ref q2, .ref q3, .ref q4, .ref q5, .ref q6, .ref q7, .null, .null, .int (zI 0)])), (q1, iE 0 256 (fun _ => 0)), (q2, iE 0 256 (fun _ => 0)), (q3, iE 0 256 (fun _ => 0)), (q4, iE 0 256 (fun _ => 0)), (q5, iE 0 256 (fun _ => 0)), (q6, iE 0 256 (fun _ => 0)), (q7, iE 0 256 (fun _ => 0))] [some (.ref a)] [] 67
  refine V_aload_n dX9_init_67 rfl ?_
  refine V_sipush dX9_init_68 (by decide) ?_
  refine V_newa_i (N := 158) w137 rfl (by decide) ⟨Nat.le_of_ble_eq_true rfl, Nat.le_of_ble_eq_true rfl⟩ dX9_init_71 (fun q8 => ?_)
  show V K sX9_init 8 1950 [(a, .inr (8, [.ref q1, .ref q2, .ref q3, .ref q4, .ref q5, .ref q6, .ref q7, .null, .null, .int (zI 0)])), (q1, iE 0 256 (fun _ => 0)), (q2, iE 0 256 (fun _ => 0)), (q3, iE 0 256 (fun _ => 0)), (q4, iE 0 256 (fun _ => 0)), (q5, iE 0 256 (fun _ => 0)), (q6, iE 0 256 (fun _ => 0)), (q7, iE 0 256 (fun _ => 0)), (q8, iE 0 158 (fun _ => 0))] [some (.ref a)] [.ref q8, .ref a] 73
  refine V_putF (C0 := RX9) (T := TX9) (N := 10) (ci := 8) (fs := [.ref q1, .ref q2, .ref q3, .ref q4, .ref q5, .ref q6, .ref q7, .null, .null, .int (zI 0)]) hI 0 7 iwX9 (by decide) w113 rfl tyX9 tyX9_ok nmX9 rfl rfl rfl (Nat.le_of_ble_eq_true rfl) rfl rfl dX9_init_73 ?_
  show V K sX9_init 8 1950 [(a, .inr (8, [.ref q1, .ref q2, .ref q3, .ref q4, .ref q5, .ref q6, .ref q7, .ref q8, .null, .int (zI 0)])), (q1, iE 0 256 (fun _ => 0)), (q2, iE 0 256 (fun _ => 0)), (q3, iE 0 256 (fun _ => 0)), (q4, iE 0 256 (fun _ => 0)), (q5, iE 0 256 (fun _ => 0)), (q6, iE 0 256 (fun _ => 0)), (q7, iE 0 256 (fun _ => 0)), (q8, iE 0 158 (fun _ => 0))] [some (.ref a)] [] 76
  refine V_aload_n dX9_init_76 rfl ?_
  refine V_sipush dX9_init_77 (by decide) ?_
  refine V_newa_i (N := 258) w137 rfl (by decide) ⟨Nat.le_of_ble_eq_true rfl, Nat.le_of_ble_eq_true rfl⟩ dX9_init_80 (fun q9 => ?_)
  show V K sX9_init 9 2208 [(a, .inr (8, [.ref q1, .ref q2, .ref q3, .ref q4, .ref q5, .ref q6, .ref q7, .ref q8, .null, .int (zI 0)])), (q1, iE 0 256 (fun _ => 0)), (q2, iE 0 256 (fun _ => 0)), (q3, iE 0 256 (fun _ => 0)), (q4, iE 0 256 (fun _ => 0)), (q5, iE 0 256 (fun _ => 0)), (q6, iE 0 256 (fun _ => 0)), (q7, iE 0 256 (fun _ => 0)), (q8, iE 0 158 (fun _ => 0)), (q9, iE 0 258 (fun _ => 0))] [some (.ref a)] [.ref q9, .ref a] 82
  refine V_putF (C0 := RX9) (T := TX9) (N := 10) (ci := 8) (fs := [.ref q1, .ref q2, .ref q3, .ref q4, .ref q5, .ref q6, .ref q7, .ref q8, .null, .int (zI 0)]) hI 0 8 iwX9 (by decide) w114 rfl tyX9 tyX9_ok nmX9 rfl rfl rfl (Nat.le_of_ble_eq_true rfl) rfl rfl dX9_init_82 ?_
  show V K sX9_init 9 2208 [(a, .inr (8, [.ref q1, .ref q2, .ref q3, .ref q4, .ref q5, .ref q6, .ref q7, .ref q8, .ref q9, .int (zI 0)])), (q1, iE 0 256 (fun _ => 0)), (q2, iE 0 256 (fun _ => 0)), (q3, iE 0 256 (fun _ => 0)), (q4, iE 0 256 (fun _ => 0)), (q5, iE 0 256 (fun _ => 0)), (q6, iE 0 256 (fun _ => 0)), (q7, iE 0 256 (fun _ => 0)), (q8, iE 0 158 (fun _ => 0)), (q9, iE 0 258 (fun _ => 0))] [some (.ref a)] [] 85
  refine V_aload_n dX9_init_85 rfl ?_
  refine V_iconst dX9_init_86 ?_
  refine V_putf (C0 := RX9) (T := TX9) (N := 10) (ci := 8) (fs := [.ref q1, .ref q2, .ref q3, .ref q4, .ref q5, .ref q6, .ref q7, .ref q8, .ref q9, .int (zI 0)]) 0 9 iwX9 (by decide) w115 (Or.inl rfl) tyX9 tyX9_ok nmX9 rfl rfl rfl (Nat.le_of_ble_eq_true rfl) rfl rfl dX9_init_87 ?_
  show V K sX9_init 9 2208 [(a, .inr (8, [.ref q1, .ref q2, .ref q3, .ref q4, .ref q5, .ref q6, .ref q7, .ref q8, .ref q9, .int (zI 0)])), (q1, iE 0 256 (fun _ => 0)), (q2, iE 0 256 (fun _ => 0)), (q3, iE 0 256 (fun _ => 0)), (q4, iE 0 256 (fun _ => 0)), (q5, iE 0 256 (fun _ => 0)), (q6, iE 0 256 (fun _ => 0)), (q7, iE 0 256 (fun _ => 0)), (q8, iE 0 158 (fun _ => 0)), (q9, iE 0 258 (fun _ => 0))] [some (.ref a)] [] 90
  refine V_vret hR rfl (Nat.le_of_ble_eq_true rfl) (Nat.le_of_ble_eq_true rfl) dX9_init_90 ?_
  exact ⟨q1, q2, q3, q4, q5, q6, q7, q8, q9, rfl, rfl⟩
set_option maxRecDepth 100000 in
set_option maxHeartbeats 4000000 in
theorem k_w4_init0 (en : Nat → Nat) (a : Nat) : MC (EN en) yX4_init sX4_init [.ref a, .int (zI 0)] [(a, .inr (3, [.int (zI 0), .null]))] (fun v w => ∃ q0 q1 q2 q3 q4 : Nat, v = none ∧ w = [(a, .inr (3, [.int (zI 0), .ref q0])), (q0, oE 4 4 (r4 q1 q2 q3 q4)), (q1, iE 0 64 (fun _ => 0)), (q2, iE 0 64 (fun _ => 0)), (q3, iE 0 64 (fun _ => 0)), (q4, iE 0 64 (fun _ => 0))]) := by
  refine MC.ofI (EN.stb en) rfl [some (.ref a), some (.int (zI 0))] 0 rfl rfl rfl (by simp [Value.category]) (Nat.le_of_ble_eq_true rfl) (fun K hK hI hR => ?_)
  refine V_aload_n dX4_init_0 rfl ?_
  refine V_objInit w200 ⟨Nat.le_of_ble_eq_true rfl, Nat.le_of_ble_eq_true rfl⟩ dX4_init_1 ?_
  refine V_aload_n dX4_init_4 rfl ?_
  refine V_iload_n dX4_init_5 rfl ?_
  refine V_putF (C0 := RX4) (T := TX4) (N := 2) (ci := 3) (fs := [.int (zI 0), .null]) hI 0 0 iwX4 (by decide) w203 rfl tyX4 tyX4_ok nmX4 rfl rfl rfl (Nat.le_of_ble_eq_true rfl) (by decide) (by decide) dX4_init_6 ?_
  show V K sX4_init 0 0 [(a, .inr (3, [.int (zI 0), .null]))] [some (.ref a), some (.int (zI 0))] [] 9
  refine V_aload_n dX4_init_9 rfl ?_
  refine V_iconst dX4_init_10 ?_
  refine V_iload_n dX4_init_11 rfl ?_
  refine V_if_eq (tgt := 21) dX4_init_12 (by decide) ⟨by omega, by omega⟩ (fun _ => ?_) (fun h => absurd rfl h)
  refine V_bipush dX4_init_21 (by decide) ?_
  refine V_mna (K' := 64) w201 hK (by decide) ⟨Nat.le_of_ble_eq_true rfl, Nat.le_of_ble_eq_true rfl⟩ dX4_init_23 (fun q0 q1 q2 q3 q4 => ?_)
  show V K sX4_init 5 260 [(a, .inr (3, [.int (zI 0), .null])), (q0, oE 4 4 (r4 q1 q2 q3 q4)), (q1, iE 0 64 (fun _ => 0)), (q2, iE 0 64 (fun _ => 0)), (q3, iE 0 64 (fun _ => 0)), (q4, iE 0 64 (fun _ => 0))] [some (.ref a), some (.int (zI 0))] [.ref q0, .ref a] 27
  refine V_putF (C0 := RX4) (T := TX4) (N := 2) (ci := 3) (fs := [.int (zI 0), .null]) hI 0 1 iwX4 (by decide) w204 rfl tyX4 tyX4_ok nmX4 rfl rfl rfl (Nat.le_of_ble_eq_true rfl) rfl rfl dX4_init_27 ?_
  show V K sX4_init 5 260 [(a, .inr (3, [.int (zI 0), .ref q0])), (q0, oE 4 4 (r4 q1 q2 q3 q4)), (q1, iE 0 64 (fun _ => 0)), (q2, iE 0 64 (fun _ => 0)), (q3, iE 0 64 (fun _ => 0)), (q4, iE 0 64 (fun _ => 0))] [some (.ref a), some (.int (zI 0))] [] 30
  refine V_vret hR rfl (Nat.le_of_ble_eq_true rfl) (Nat.le_of_ble_eq_true rfl) dX4_init_30 ?_
  exact ⟨q0, q1, q2, q3, q4, rfl, rfl⟩
set_option maxRecDepth 100000 in
set_option maxHeartbeats 4000000 in
theorem k_w4_init1 (en : Nat → Nat) (a : Nat) : MC (EN en) yX4_init sX4_init [.ref a, .int (zI 1)] [(a, .inr (3, [.int (zI 0), .null]))] (fun v w => ∃ q0 q1 q2 q3 q4 : Nat, v = none ∧ w = [(a, .inr (3, [.int (zI 1), .ref q0])), (q0, oE 4 4 (r4 q1 q2 q3 q4)), (q1, iE 0 701 (fun _ => 0)), (q2, iE 0 701 (fun _ => 0)), (q3, iE 0 701 (fun _ => 0)), (q4, iE 0 701 (fun _ => 0))]) := by
  refine MC.ofI (EN.stb en) rfl [some (.ref a), some (.int (zI 1))] 0 rfl rfl rfl (by simp [Value.category]) (Nat.le_of_ble_eq_true rfl) (fun K hK hI hR => ?_)
  refine V_aload_n dX4_init_0 rfl ?_
  refine V_objInit w200 ⟨Nat.le_of_ble_eq_true rfl, Nat.le_of_ble_eq_true rfl⟩ dX4_init_1 ?_
  refine V_aload_n dX4_init_4 rfl ?_
  refine V_iload_n dX4_init_5 rfl ?_
  refine V_putF (C0 := RX4) (T := TX4) (N := 2) (ci := 3) (fs := [.int (zI 0), .null]) hI 0 0 iwX4 (by decide) w203 rfl tyX4 tyX4_ok nmX4 rfl rfl rfl (Nat.le_of_ble_eq_true rfl) (by decide) (by decide) dX4_init_6 ?_
  show V K sX4_init 0 0 [(a, .inr (3, [.int (zI 1), .null]))] [some (.ref a), some (.int (zI 1))] [] 9
  refine V_aload_n dX4_init_9 rfl ?_
  refine V_iconst dX4_init_10 ?_
  refine V_iload_n dX4_init_11 rfl ?_
  refine V_if_eq (tgt := 21) dX4_init_12 (by decide) ⟨by omega, by omega⟩ (fun h => absurd h (by decide)) (fun _ => ?_)
  refine V_sipush dX4_init_15 (by decide) ?_
  refine V_goto (tgt := 23) dX4_init_18 (by decide) ?_
  refine V_mna (K' := 701) w201 hK (by decide) ⟨Nat.le_of_ble_eq_true rfl, Nat.le_of_ble_eq_true rfl⟩ dX4_init_23 (fun q0 q1 q2 q3 q4 => ?_)
  show V K sX4_init 5 2808 [(a, .inr (3, [.int (zI 1), .null])), (q0, oE 4 4 (r4 q1 q2 q3 q4)), (q1, iE 0 701 (fun _ => 0)), (q2, iE 0 701 (fun _ => 0)), (q3, iE 0 701 (fun _ => 0)), (q4, iE 0 701 (fun _ => 0))] [some (.ref a), some (.int (zI 1))] [.ref q0, .ref a] 27
  refine V_putF (C0 := RX4) (T := TX4) (N := 2) (ci := 3) (fs := [.int (zI 1), .null]) hI 0 1 iwX4 (by decide) w204 rfl tyX4 tyX4_ok nmX4 rfl rfl rfl (Nat.le_of_ble_eq_true rfl) rfl rfl dX4_init_27 ?_
  show V K sX4_init 5 2808 [(a, .inr (3, [.int (zI 1), .ref q0])), (q0, oE 4 4 (r4 q1 q2 q3 q4)), (q1, iE 0 701 (fun _ => 0)), (q2, iE 0 701 (fun _ => 0)), (q3, iE 0 701 (fun _ => 0)), (q4, iE 0 701 (fun _ => 0))] [some (.ref a), some (.int (zI 1))] [] 30
  refine V_vret hR rfl (Nat.le_of_ble_eq_true rfl) (Nat.le_of_ble_eq_true rfl) dX4_init_30 ?_
  exact ⟨q0, q1, q2, q3, q4, rfl, rfl⟩
set_option maxRecDepth 100000 in
set_option maxHeartbeats 4000000 in
theorem k_w10_init (en : Nat → Nat) (a : Nat) : MC (EN en) yX10_init sX10_init [.ref a] [(a, .inr (9, [.null, .null, .null, .null, .null, .null, .null, .int (zI 0), .int (zI 0)]))] (fun v w => ∃ p_ pl_ wk_ w1_ w2_ w3_ w4_ w5_ w6_ w7_ w8_ w9_ df_ d1_ d2_ d3_ d4_ wn_ m_ m0_ m1_ m2_ m3_ m4_ n_ n0_ n1_ n2_ n3_ n4_ bs_ : Nat, v = none ∧ w = [(a, .inr (9, [.ref p_, .ref wk_, .ref df_, .ref wn_, .ref m_, .ref n_, .ref bs_, .int (zI 1), .int (zI 0)])), (p_, .inr (4, [.ref pl_, .int (zI 4), .int (zI 4), .int (zI 16)])), (pl_, .inr (0, [.int (zI 0), .ref (en 5), .int (zI 0)])), (wk_, .inr (8, [.ref w1_, .ref w2_, .ref w3_, .ref w4_, .ref w5_, .ref w6_, .ref w7_, .ref w8_, .ref w9_, .int (zI 0)])), (w1_, iE 0 256 (fun _ => 0)), (w2_, iE 0 256 (fun _ => 0)), (w3_, iE 0 256 (fun _ => 0)), (w4_, iE 0 256 (fun _ => 0)), (w5_, iE 0 256 (fun _ => 0)), (w6_, iE 0 256 (fun _ => 0)), (w7_, iE 0 256 (fun _ => 0)), (w8_, iE 0 158 (fun _ => 0)), (w9_, iE 0 258 (fun _ => 0)), (df_, .inr (2, [.ref d1_, .ref d2_, .ref d3_, .ref d4_, .int (zI 0), .int (zI 4), .int (zI 4)])), (d1_, iE 1 225 (fun _ => 0)), (d2_, iE 0 225 (fun _ => 0)), (d3_, iE 0 225 (fun _ => 0)), (d4_, iE 1 64 (fun _ => 0)), (wn_, .inr (7, [.ref (en 0), .int (zI 1), .int (zI 1), .int (zI 1), .int (zI 0)])), (m_, .inr (3, [.int (zI 0), .ref m0_])), (m0_, oE 4 4 (r4 m1_ m2_ m3_ m4_)), (m1_, iE 0 64 (fun _ => 0)), (m2_, iE 0 64 (fun _ => 0)), (m3_, iE 0 64 (fun _ => 0)), (m4_, iE 0 64 (fun _ => 0)), (n_, .inr (3, [.int (zI 1), .ref n0_])), (n0_, oE 4 4 (r4 n1_ n2_ n3_ n4_)), (n1_, iE 0 701 (fun _ => 0)), (n2_, iE 0 701 (fun _ => 0)), (n3_, iE 0 701 (fun _ => 0)), (n4_, iE 0 701 (fun _ => 0)), (bs_, .inr (1, [.int (zI 0), .int (zI 0), .int (zI 0), .int (zI 0)]))]) := by
  refine MC.ofI (EN.stb en) rfl [some (.ref a)] 0 rfl rfl rfl (by simp [Value.category]) (Nat.le_of_ble_eq_true rfl) (fun K hK hI hR => ?_)
  refine V_aload_n dX10_init_0 rfl ?_
  refine V_objInit w33 ⟨Nat.le_of_ble_eq_true rfl, Nat.le_of_ble_eq_true rfl⟩ dX10_init_1 ?_
  refine V_aload_n dX10_init_4 rfl ?_
  refine V_new (C0 := RX5) (T := TX5) (N := 4) (ci := 4) (fs := [.null, .int (zI 0), .int (zI 0), .int (zI 0)]) iwX5 tyX5 tyX5_ok w36 w37 w2 rfl (fun j hj => by rcases (show j = 0 ∨ j = 1 ∨ j = 2 ∨ j = 3 by omega) with rfl | rfl | rfl | rfl <;> rfl) ⟨Nat.le_of_ble_eq_true rfl, Nat.le_of_ble_eq_true rfl⟩ dX10_init_5 (fun p_ => ?_)
  show V K sX10_init 1 4 [(a, .inr (9, [.null, .null, .null, .null, .null, .null, .null, .int (zI 0), .int (zI 0)])), (p_, .inr (4, [.null, .int (zI 0), .int (zI 0), .int (zI 0)]))] [some (.ref a)] [.ref p_, .ref a] 8
  refine V_dup dX10_init_8 rfl ?_
  -- CellWindows$Program.<init>
  refine V_callIBN (As := []) (b := p_) (wr := [(a, .inr (9, [.null, .null, .null, .null, .null, .null, .null, .int (zI 0), .int (zI 0)]))]) (wc := [(p_, .inr (4, [.null, .int (zI 0), .int (zI 0), .int (zI 0)]))]) rfl hK (k_w5_init en p_) mokX5_init wn38 w39 rfl rfl ⟨Nat.le_of_ble_eq_true rfl, Nat.le_of_ble_eq_true rfl⟩ rfl (Nat.le_of_ble_eq_true rfl) ⟨Nat.le_of_ble_eq_true rfl, Nat.le_of_ble_eq_true rfl⟩ dX10_init_9 (fun v w p0 => ?_)
  obtain ⟨pl_, rfl, rfl⟩ := p0
  show V K sX10_init 2 7 [(a, .inr (9, [.null, .null, .null, .null, .null, .null, .null, .int (zI 0), .int (zI 0)])), (p_, .inr (4, [.ref pl_, .int (zI 4), .int (zI 4), .int (zI 16)])), (pl_, .inr (0, [.int (zI 0), .ref (en 5), .int (zI 0)]))] [some (.ref a)] [.ref p_, .ref a] 12
  refine V_putF (C0 := RX10) (T := TX10) (N := 9) (ci := 9) (fs := [.null, .null, .null, .null, .null, .null, .null, .int (zI 0), .int (zI 0)]) hI 0 0 iwX10 (by decide) w233 rfl tyX10 tyX10_ok nmX10 rfl rfl rfl (Nat.le_of_ble_eq_true rfl) rfl rfl dX10_init_12 ?_
  show V K sX10_init 2 7 [(a, .inr (9, [.ref p_, .null, .null, .null, .null, .null, .null, .int (zI 0), .int (zI 0)])), (p_, .inr (4, [.ref pl_, .int (zI 4), .int (zI 4), .int (zI 16)])), (pl_, .inr (0, [.int (zI 0), .ref (en 5), .int (zI 0)]))] [some (.ref a)] [] 15
  refine V_aload_n dX10_init_15 rfl ?_
  refine V_new (C0 := RX9) (T := TX9) (N := 10) (ci := 8) (fs := [.null, .null, .null, .null, .null, .null, .null, .null, .null, .int (zI 0)]) iwX9 tyX9 tyX9_ok w91 w92 w6 rfl (fun j hj => by rcases (show j = 0 ∨ j = 1 ∨ j = 2 ∨ j = 3 ∨ j = 4 ∨ j = 5 ∨ j = 6 ∨ j = 7 ∨ j = 8 ∨ j = 9 by omega) with rfl | rfl | rfl | rfl | rfl | rfl | rfl | rfl | rfl | rfl <;> rfl) ⟨Nat.le_of_ble_eq_true rfl, Nat.le_of_ble_eq_true rfl⟩ dX10_init_16 (fun wk_ => ?_)
  show V K sX10_init 3 17 [(a, .inr (9, [.ref p_, .null, .null, .null, .null, .null, .null, .int (zI 0), .int (zI 0)])), (p_, .inr (4, [.ref pl_, .int (zI 4), .int (zI 4), .int (zI 16)])), (pl_, .inr (0, [.int (zI 0), .ref (en 5), .int (zI 0)])), (wk_, .inr (8, [.null, .null, .null, .null, .null, .null, .null, .null, .null, .int (zI 0)]))] [some (.ref a)] [.ref wk_, .ref a] 19
  refine V_dup dX10_init_19 rfl ?_
  -- CellWindows$Work.<init>
  refine V_callIBN (As := []) (b := wk_) (wr := [(a, .inr (9, [.ref p_, .null, .null, .null, .null, .null, .null, .int (zI 0), .int (zI 0)])), (p_, .inr (4, [.ref pl_, .int (zI 4), .int (zI 4), .int (zI 16)])), (pl_, .inr (0, [.int (zI 0), .ref (en 5), .int (zI 0)]))]) (wc := [(wk_, .inr (8, [.null, .null, .null, .null, .null, .null, .null, .null, .null, .int (zI 0)]))]) rfl hK (k_w9_init en wk_) mokX9_init wn93 w94 rfl rfl ⟨Nat.le_of_ble_eq_true rfl, Nat.le_of_ble_eq_true rfl⟩ rfl (Nat.le_of_ble_eq_true rfl) ⟨Nat.le_of_ble_eq_true rfl, Nat.le_of_ble_eq_true rfl⟩ dX10_init_20 (fun v w p1 => ?_)
  obtain ⟨w1_, w2_, w3_, w4_, w5_, w6_, w7_, w8_, w9_, rfl, rfl⟩ := p1
  show V K sX10_init 12 2225 [(a, .inr (9, [.ref p_, .null, .null, .null, .null, .null, .null, .int (zI 0), .int (zI 0)])), (p_, .inr (4, [.ref pl_, .int (zI 4), .int (zI 4), .int (zI 16)])), (pl_, .inr (0, [.int (zI 0), .ref (en 5), .int (zI 0)])), (wk_, .inr (8, [.ref w1_, .ref w2_, .ref w3_, .ref w4_, .ref w5_, .ref w6_, .ref w7_, .ref w8_, .ref w9_, .int (zI 0)])), (w1_, iE 0 256 (fun _ => 0)), (w2_, iE 0 256 (fun _ => 0)), (w3_, iE 0 256 (fun _ => 0)), (w4_, iE 0 256 (fun _ => 0)), (w5_, iE 0 256 (fun _ => 0)), (w6_, iE 0 256 (fun _ => 0)), (w7_, iE 0 256 (fun _ => 0)), (w8_, iE 0 158 (fun _ => 0)), (w9_, iE 0 258 (fun _ => 0))] [some (.ref a)] [.ref wk_, .ref a] 23
  refine V_putF (C0 := RX10) (T := TX10) (N := 9) (ci := 9) (fs := [.ref p_, .null, .null, .null, .null, .null, .null, .int (zI 0), .int (zI 0)]) hI 0 1 iwX10 (by decide) w234 rfl tyX10 tyX10_ok nmX10 rfl rfl rfl (Nat.le_of_ble_eq_true rfl) rfl rfl dX10_init_23 ?_
  show V K sX10_init 12 2225 [(a, .inr (9, [.ref p_, .ref wk_, .null, .null, .null, .null, .null, .int (zI 0), .int (zI 0)])), (p_, .inr (4, [.ref pl_, .int (zI 4), .int (zI 4), .int (zI 16)])), (pl_, .inr (0, [.int (zI 0), .ref (en 5), .int (zI 0)])), (wk_, .inr (8, [.ref w1_, .ref w2_, .ref w3_, .ref w4_, .ref w5_, .ref w6_, .ref w7_, .ref w8_, .ref w9_, .int (zI 0)])), (w1_, iE 0 256 (fun _ => 0)), (w2_, iE 0 256 (fun _ => 0)), (w3_, iE 0 256 (fun _ => 0)), (w4_, iE 0 256 (fun _ => 0)), (w5_, iE 0 256 (fun _ => 0)), (w6_, iE 0 256 (fun _ => 0)), (w7_, iE 0 256 (fun _ => 0)), (w8_, iE 0 158 (fun _ => 0)), (w9_, iE 0 258 (fun _ => 0))] [some (.ref a)] [] 26
  refine V_aload_n dX10_init_26 rfl ?_
  refine V_new (C0 := RX2) (T := TX2) (N := 7) (ci := 2) (fs := [.null, .null, .null, .null, .int (zI 0), .int (zI 0), .int (zI 0)]) iwX2 tyX2 tyX2_ok w138 w139 w7 rfl (fun j hj => by rcases (show j = 0 ∨ j = 1 ∨ j = 2 ∨ j = 3 ∨ j = 4 ∨ j = 5 ∨ j = 6 by omega) with rfl | rfl | rfl | rfl | rfl | rfl | rfl <;> rfl) ⟨Nat.le_of_ble_eq_true rfl, Nat.le_of_ble_eq_true rfl⟩ dX10_init_27 (fun df_ => ?_)
  show V K sX10_init 13 2232 [(a, .inr (9, [.ref p_, .ref wk_, .null, .null, .null, .null, .null, .int (zI 0), .int (zI 0)])), (p_, .inr (4, [.ref pl_, .int (zI 4), .int (zI 4), .int (zI 16)])), (pl_, .inr (0, [.int (zI 0), .ref (en 5), .int (zI 0)])), (wk_, .inr (8, [.ref w1_, .ref w2_, .ref w3_, .ref w4_, .ref w5_, .ref w6_, .ref w7_, .ref w8_, .ref w9_, .int (zI 0)])), (w1_, iE 0 256 (fun _ => 0)), (w2_, iE 0 256 (fun _ => 0)), (w3_, iE 0 256 (fun _ => 0)), (w4_, iE 0 256 (fun _ => 0)), (w5_, iE 0 256 (fun _ => 0)), (w6_, iE 0 256 (fun _ => 0)), (w7_, iE 0 256 (fun _ => 0)), (w8_, iE 0 158 (fun _ => 0)), (w9_, iE 0 258 (fun _ => 0)), (df_, .inr (2, [.null, .null, .null, .null, .int (zI 0), .int (zI 0), .int (zI 0)]))] [some (.ref a)] [.ref df_, .ref a] 30
  refine V_dup dX10_init_30 rfl ?_
  -- CellWindows$Differences.<init>
  refine V_callIBN (As := []) (b := df_) (wr := [(a, .inr (9, [.ref p_, .ref wk_, .null, .null, .null, .null, .null, .int (zI 0), .int (zI 0)])), (p_, .inr (4, [.ref pl_, .int (zI 4), .int (zI 4), .int (zI 16)])), (pl_, .inr (0, [.int (zI 0), .ref (en 5), .int (zI 0)])), (wk_, .inr (8, [.ref w1_, .ref w2_, .ref w3_, .ref w4_, .ref w5_, .ref w6_, .ref w7_, .ref w8_, .ref w9_, .int (zI 0)])), (w1_, iE 0 256 (fun _ => 0)), (w2_, iE 0 256 (fun _ => 0)), (w3_, iE 0 256 (fun _ => 0)), (w4_, iE 0 256 (fun _ => 0)), (w5_, iE 0 256 (fun _ => 0)), (w6_, iE 0 256 (fun _ => 0)), (w7_, iE 0 256 (fun _ => 0)), (w8_, iE 0 158 (fun _ => 0)), (w9_, iE 0 258 (fun _ => 0))]) (wc := [(df_, .inr (2, [.null, .null, .null, .null, .int (zI 0), .int (zI 0), .int (zI 0)]))]) rfl hK (k_w2_init en df_) mokX2_init wn140 w141 rfl rfl ⟨Nat.le_of_ble_eq_true rfl, Nat.le_of_ble_eq_true rfl⟩ rfl (Nat.le_of_ble_eq_true rfl) ⟨Nat.le_of_ble_eq_true rfl, Nat.le_of_ble_eq_true rfl⟩ dX10_init_31 (fun v w p2 => ?_)
  obtain ⟨d1_, d2_, d3_, d4_, rfl, rfl⟩ := p2
  show V K sX10_init 17 2971 [(a, .inr (9, [.ref p_, .ref wk_, .null, .null, .null, .null, .null, .int (zI 0), .int (zI 0)])), (p_, .inr (4, [.ref pl_, .int (zI 4), .int (zI 4), .int (zI 16)])), (pl_, .inr (0, [.int (zI 0), .ref (en 5), .int (zI 0)])), (wk_, .inr (8, [.ref w1_, .ref w2_, .ref w3_, .ref w4_, .ref w5_, .ref w6_, .ref w7_, .ref w8_, .ref w9_, .int (zI 0)])), (w1_, iE 0 256 (fun _ => 0)), (w2_, iE 0 256 (fun _ => 0)), (w3_, iE 0 256 (fun _ => 0)), (w4_, iE 0 256 (fun _ => 0)), (w5_, iE 0 256 (fun _ => 0)), (w6_, iE 0 256 (fun _ => 0)), (w7_, iE 0 256 (fun _ => 0)), (w8_, iE 0 158 (fun _ => 0)), (w9_, iE 0 258 (fun _ => 0)), (df_, .inr (2, [.ref d1_, .ref d2_, .ref d3_, .ref d4_, .int (zI 0), .int (zI 4), .int (zI 4)])), (d1_, iE 1 225 (fun _ => 0)), (d2_, iE 0 225 (fun _ => 0)), (d3_, iE 0 225 (fun _ => 0)), (d4_, iE 1 64 (fun _ => 0))] [some (.ref a)] [.ref df_, .ref a] 34
  refine V_putF (C0 := RX10) (T := TX10) (N := 9) (ci := 9) (fs := [.ref p_, .ref wk_, .null, .null, .null, .null, .null, .int (zI 0), .int (zI 0)]) hI 0 2 iwX10 (by decide) w235 rfl tyX10 tyX10_ok nmX10 rfl rfl rfl (Nat.le_of_ble_eq_true rfl) rfl rfl dX10_init_34 ?_
  show V K sX10_init 17 2971 [(a, .inr (9, [.ref p_, .ref wk_, .ref df_, .null, .null, .null, .null, .int (zI 0), .int (zI 0)])), (p_, .inr (4, [.ref pl_, .int (zI 4), .int (zI 4), .int (zI 16)])), (pl_, .inr (0, [.int (zI 0), .ref (en 5), .int (zI 0)])), (wk_, .inr (8, [.ref w1_, .ref w2_, .ref w3_, .ref w4_, .ref w5_, .ref w6_, .ref w7_, .ref w8_, .ref w9_, .int (zI 0)])), (w1_, iE 0 256 (fun _ => 0)), (w2_, iE 0 256 (fun _ => 0)), (w3_, iE 0 256 (fun _ => 0)), (w4_, iE 0 256 (fun _ => 0)), (w5_, iE 0 256 (fun _ => 0)), (w6_, iE 0 256 (fun _ => 0)), (w7_, iE 0 256 (fun _ => 0)), (w8_, iE 0 158 (fun _ => 0)), (w9_, iE 0 258 (fun _ => 0)), (df_, .inr (2, [.ref d1_, .ref d2_, .ref d3_, .ref d4_, .int (zI 0), .int (zI 4), .int (zI 4)])), (d1_, iE 1 225 (fun _ => 0)), (d2_, iE 0 225 (fun _ => 0)), (d3_, iE 0 225 (fun _ => 0)), (d4_, iE 1 64 (fun _ => 0))] [some (.ref a)] [] 37
  refine V_aload_n dX10_init_37 rfl ?_
  refine V_new (C0 := RX8) (T := TX8) (N := 5) (ci := 7) (fs := [.null, .int (zI 0), .int (zI 0), .int (zI 0), .int (zI 0)]) iwX8 tyX8 tyX8_ok w167 w168 w8 rfl (fun j hj => by rcases (show j = 0 ∨ j = 1 ∨ j = 2 ∨ j = 3 ∨ j = 4 by omega) with rfl | rfl | rfl | rfl | rfl <;> rfl) ⟨Nat.le_of_ble_eq_true rfl, Nat.le_of_ble_eq_true rfl⟩ dX10_init_38 (fun wn_ => ?_)
  show V K sX10_init 18 2976 [(a, .inr (9, [.ref p_, .ref wk_, .ref df_, .null, .null, .null, .null, .int (zI 0), .int (zI 0)])), (p_, .inr (4, [.ref pl_, .int (zI 4), .int (zI 4), .int (zI 16)])), (pl_, .inr (0, [.int (zI 0), .ref (en 5), .int (zI 0)])), (wk_, .inr (8, [.ref w1_, .ref w2_, .ref w3_, .ref w4_, .ref w5_, .ref w6_, .ref w7_, .ref w8_, .ref w9_, .int (zI 0)])), (w1_, iE 0 256 (fun _ => 0)), (w2_, iE 0 256 (fun _ => 0)), (w3_, iE 0 256 (fun _ => 0)), (w4_, iE 0 256 (fun _ => 0)), (w5_, iE 0 256 (fun _ => 0)), (w6_, iE 0 256 (fun _ => 0)), (w7_, iE 0 256 (fun _ => 0)), (w8_, iE 0 158 (fun _ => 0)), (w9_, iE 0 258 (fun _ => 0)), (df_, .inr (2, [.ref d1_, .ref d2_, .ref d3_, .ref d4_, .int (zI 0), .int (zI 4), .int (zI 4)])), (d1_, iE 1 225 (fun _ => 0)), (d2_, iE 0 225 (fun _ => 0)), (d3_, iE 0 225 (fun _ => 0)), (d4_, iE 1 64 (fun _ => 0)), (wn_, .inr (7, [.null, .int (zI 0), .int (zI 0), .int (zI 0), .int (zI 0)]))] [some (.ref a)] [.ref wn_, .ref a] 41
  refine V_dup dX10_init_41 rfl ?_
  -- CellWindows$Window.<init>
  refine V_callIBN (As := []) (b := wn_) (wr := [(a, .inr (9, [.ref p_, .ref wk_, .ref df_, .null, .null, .null, .null, .int (zI 0), .int (zI 0)])), (p_, .inr (4, [.ref pl_, .int (zI 4), .int (zI 4), .int (zI 16)])), (pl_, .inr (0, [.int (zI 0), .ref (en 5), .int (zI 0)])), (wk_, .inr (8, [.ref w1_, .ref w2_, .ref w3_, .ref w4_, .ref w5_, .ref w6_, .ref w7_, .ref w8_, .ref w9_, .int (zI 0)])), (w1_, iE 0 256 (fun _ => 0)), (w2_, iE 0 256 (fun _ => 0)), (w3_, iE 0 256 (fun _ => 0)), (w4_, iE 0 256 (fun _ => 0)), (w5_, iE 0 256 (fun _ => 0)), (w6_, iE 0 256 (fun _ => 0)), (w7_, iE 0 256 (fun _ => 0)), (w8_, iE 0 158 (fun _ => 0)), (w9_, iE 0 258 (fun _ => 0)), (df_, .inr (2, [.ref d1_, .ref d2_, .ref d3_, .ref d4_, .int (zI 0), .int (zI 4), .int (zI 4)])), (d1_, iE 1 225 (fun _ => 0)), (d2_, iE 0 225 (fun _ => 0)), (d3_, iE 0 225 (fun _ => 0)), (d4_, iE 1 64 (fun _ => 0))]) (wc := [(wn_, .inr (7, [.null, .int (zI 0), .int (zI 0), .int (zI 0), .int (zI 0)]))]) rfl hK (k_w8_init en wn_) mokX8_init wn169 w170 rfl rfl ⟨Nat.le_of_ble_eq_true rfl, Nat.le_of_ble_eq_true rfl⟩ rfl (Nat.le_of_ble_eq_true rfl) ⟨Nat.le_of_ble_eq_true rfl, Nat.le_of_ble_eq_true rfl⟩ dX10_init_42 (fun v w p3 => ?_)
  obtain ⟨rfl, rfl⟩ := p3
  show V K sX10_init 18 2976 [(a, .inr (9, [.ref p_, .ref wk_, .ref df_, .null, .null, .null, .null, .int (zI 0), .int (zI 0)])), (p_, .inr (4, [.ref pl_, .int (zI 4), .int (zI 4), .int (zI 16)])), (pl_, .inr (0, [.int (zI 0), .ref (en 5), .int (zI 0)])), (wk_, .inr (8, [.ref w1_, .ref w2_, .ref w3_, .ref w4_, .ref w5_, .ref w6_, .ref w7_, .ref w8_, .ref w9_, .int (zI 0)])), (w1_, iE 0 256 (fun _ => 0)), (w2_, iE 0 256 (fun _ => 0)), (w3_, iE 0 256 (fun _ => 0)), (w4_, iE 0 256 (fun _ => 0)), (w5_, iE 0 256 (fun _ => 0)), (w6_, iE 0 256 (fun _ => 0)), (w7_, iE 0 256 (fun _ => 0)), (w8_, iE 0 158 (fun _ => 0)), (w9_, iE 0 258 (fun _ => 0)), (df_, .inr (2, [.ref d1_, .ref d2_, .ref d3_, .ref d4_, .int (zI 0), .int (zI 4), .int (zI 4)])), (d1_, iE 1 225 (fun _ => 0)), (d2_, iE 0 225 (fun _ => 0)), (d3_, iE 0 225 (fun _ => 0)), (d4_, iE 1 64 (fun _ => 0)), (wn_, .inr (7, [.ref (en 0), .int (zI 1), .int (zI 1), .int (zI 1), .int (zI 0)]))] [some (.ref a)] [.ref wn_, .ref a] 45
  refine V_putF (C0 := RX10) (T := TX10) (N := 9) (ci := 9) (fs := [.ref p_, .ref wk_, .ref df_, .null, .null, .null, .null, .int (zI 0), .int (zI 0)]) hI 0 3 iwX10 (by decide) w236 rfl tyX10 tyX10_ok nmX10 rfl rfl rfl (Nat.le_of_ble_eq_true rfl) rfl rfl dX10_init_45 ?_
  show V K sX10_init 18 2976 [(a, .inr (9, [.ref p_, .ref wk_, .ref df_, .ref wn_, .null, .null, .null, .int (zI 0), .int (zI 0)])), (p_, .inr (4, [.ref pl_, .int (zI 4), .int (zI 4), .int (zI 16)])), (pl_, .inr (0, [.int (zI 0), .ref (en 5), .int (zI 0)])), (wk_, .inr (8, [.ref w1_, .ref w2_, .ref w3_, .ref w4_, .ref w5_, .ref w6_, .ref w7_, .ref w8_, .ref w9_, .int (zI 0)])), (w1_, iE 0 256 (fun _ => 0)), (w2_, iE 0 256 (fun _ => 0)), (w3_, iE 0 256 (fun _ => 0)), (w4_, iE 0 256 (fun _ => 0)), (w5_, iE 0 256 (fun _ => 0)), (w6_, iE 0 256 (fun _ => 0)), (w7_, iE 0 256 (fun _ => 0)), (w8_, iE 0 158 (fun _ => 0)), (w9_, iE 0 258 (fun _ => 0)), (df_, .inr (2, [.ref d1_, .ref d2_, .ref d3_, .ref d4_, .int (zI 0), .int (zI 4), .int (zI 4)])), (d1_, iE 1 225 (fun _ => 0)), (d2_, iE 0 225 (fun _ => 0)), (d3_, iE 0 225 (fun _ => 0)), (d4_, iE 1 64 (fun _ => 0)), (wn_, .inr (7, [.ref (en 0), .int (zI 1), .int (zI 1), .int (zI 1), .int (zI 0)]))] [some (.ref a)] [] 48
  refine V_aload_n dX10_init_48 rfl ?_
  refine V_new (C0 := RX4) (T := TX4) (N := 2) (ci := 3) (fs := [.int (zI 0), .null]) iwX4 tyX4 tyX4_ok w195 w196 w11 rfl (fun j hj => by rcases (show j = 0 ∨ j = 1 by omega) with rfl | rfl <;> rfl) ⟨Nat.le_of_ble_eq_true rfl, Nat.le_of_ble_eq_true rfl⟩ dX10_init_49 (fun m_ => ?_)
  show V K sX10_init 19 2978 [(a, .inr (9, [.ref p_, .ref wk_, .ref df_, .ref wn_, .null, .null, .null, .int (zI 0), .int (zI 0)])), (p_, .inr (4, [.ref pl_, .int (zI 4), .int (zI 4), .int (zI 16)])), (pl_, .inr (0, [.int (zI 0), .ref (en 5), .int (zI 0)])), (wk_, .inr (8, [.ref w1_, .ref w2_, .ref w3_, .ref w4_, .ref w5_, .ref w6_, .ref w7_, .ref w8_, .ref w9_, .int (zI 0)])), (w1_, iE 0 256 (fun _ => 0)), (w2_, iE 0 256 (fun _ => 0)), (w3_, iE 0 256 (fun _ => 0)), (w4_, iE 0 256 (fun _ => 0)), (w5_, iE 0 256 (fun _ => 0)), (w6_, iE 0 256 (fun _ => 0)), (w7_, iE 0 256 (fun _ => 0)), (w8_, iE 0 158 (fun _ => 0)), (w9_, iE 0 258 (fun _ => 0)), (df_, .inr (2, [.ref d1_, .ref d2_, .ref d3_, .ref d4_, .int (zI 0), .int (zI 4), .int (zI 4)])), (d1_, iE 1 225 (fun _ => 0)), (d2_, iE 0 225 (fun _ => 0)), (d3_, iE 0 225 (fun _ => 0)), (d4_, iE 1 64 (fun _ => 0)), (wn_, .inr (7, [.ref (en 0), .int (zI 1), .int (zI 1), .int (zI 1), .int (zI 0)])), (m_, .inr (3, [.int (zI 0), .null]))] [some (.ref a)] [.ref m_, .ref a] 52
  refine V_dup dX10_init_52 rfl ?_
  refine V_iconst dX10_init_53 ?_
  -- CellWindows$Machine.<init>
  refine V_callIB (As := [.int (zI 0)]) (b := m_) (wr := [(a, .inr (9, [.ref p_, .ref wk_, .ref df_, .ref wn_, .null, .null, .null, .int (zI 0), .int (zI 0)])), (p_, .inr (4, [.ref pl_, .int (zI 4), .int (zI 4), .int (zI 16)])), (pl_, .inr (0, [.int (zI 0), .ref (en 5), .int (zI 0)])), (wk_, .inr (8, [.ref w1_, .ref w2_, .ref w3_, .ref w4_, .ref w5_, .ref w6_, .ref w7_, .ref w8_, .ref w9_, .int (zI 0)])), (w1_, iE 0 256 (fun _ => 0)), (w2_, iE 0 256 (fun _ => 0)), (w3_, iE 0 256 (fun _ => 0)), (w4_, iE 0 256 (fun _ => 0)), (w5_, iE 0 256 (fun _ => 0)), (w6_, iE 0 256 (fun _ => 0)), (w7_, iE 0 256 (fun _ => 0)), (w8_, iE 0 158 (fun _ => 0)), (w9_, iE 0 258 (fun _ => 0)), (df_, .inr (2, [.ref d1_, .ref d2_, .ref d3_, .ref d4_, .int (zI 0), .int (zI 4), .int (zI 4)])), (d1_, iE 1 225 (fun _ => 0)), (d2_, iE 0 225 (fun _ => 0)), (d3_, iE 0 225 (fun _ => 0)), (d4_, iE 1 64 (fun _ => 0)), (wn_, .inr (7, [.ref (en 0), .int (zI 1), .int (zI 1), .int (zI 1), .int (zI 0)]))]) (wc := [(m_, .inr (3, [.int (zI 0), .null]))]) rfl hK (k_w4_init0 en m_) mokX4_init w197 w198 rfl rfl ⟨Nat.le_of_ble_eq_true rfl, Nat.le_of_ble_eq_true rfl⟩ rfl (Nat.le_of_ble_eq_true rfl) ⟨Nat.le_of_ble_eq_true rfl, Nat.le_of_ble_eq_true rfl⟩ dX10_init_54 (fun v w p4 => ?_)
  obtain ⟨m0_, m1_, m2_, m3_, m4_, rfl, rfl⟩ := p4
  show V K sX10_init 24 5786 [(a, .inr (9, [.ref p_, .ref wk_, .ref df_, .ref wn_, .null, .null, .null, .int (zI 0), .int (zI 0)])), (p_, .inr (4, [.ref pl_, .int (zI 4), .int (zI 4), .int (zI 16)])), (pl_, .inr (0, [.int (zI 0), .ref (en 5), .int (zI 0)])), (wk_, .inr (8, [.ref w1_, .ref w2_, .ref w3_, .ref w4_, .ref w5_, .ref w6_, .ref w7_, .ref w8_, .ref w9_, .int (zI 0)])), (w1_, iE 0 256 (fun _ => 0)), (w2_, iE 0 256 (fun _ => 0)), (w3_, iE 0 256 (fun _ => 0)), (w4_, iE 0 256 (fun _ => 0)), (w5_, iE 0 256 (fun _ => 0)), (w6_, iE 0 256 (fun _ => 0)), (w7_, iE 0 256 (fun _ => 0)), (w8_, iE 0 158 (fun _ => 0)), (w9_, iE 0 258 (fun _ => 0)), (df_, .inr (2, [.ref d1_, .ref d2_, .ref d3_, .ref d4_, .int (zI 0), .int (zI 4), .int (zI 4)])), (d1_, iE 1 225 (fun _ => 0)), (d2_, iE 0 225 (fun _ => 0)), (d3_, iE 0 225 (fun _ => 0)), (d4_, iE 1 64 (fun _ => 0)), (wn_, .inr (7, [.ref (en 0), .int (zI 1), .int (zI 1), .int (zI 1), .int (zI 0)])), (m_, .inr (3, [.int (zI 0), .ref m0_])), (m0_, oE 4 4 (r4 m1_ m2_ m3_ m4_)), (m1_, iE 0 64 (fun _ => 0)), (m2_, iE 0 64 (fun _ => 0)), (m3_, iE 0 64 (fun _ => 0)), (m4_, iE 0 64 (fun _ => 0))] [some (.ref a)] [.ref m_, .ref a] 57
  refine V_putF (C0 := RX10) (T := TX10) (N := 9) (ci := 9) (fs := [.ref p_, .ref wk_, .ref df_, .ref wn_, .null, .null, .null, .int (zI 0), .int (zI 0)]) hI 0 4 iwX10 (by decide) w237 rfl tyX10 tyX10_ok nmX10 rfl rfl rfl (Nat.le_of_ble_eq_true rfl) rfl rfl dX10_init_57 ?_
  show V K sX10_init 24 5786 [(a, .inr (9, [.ref p_, .ref wk_, .ref df_, .ref wn_, .ref m_, .null, .null, .int (zI 0), .int (zI 0)])), (p_, .inr (4, [.ref pl_, .int (zI 4), .int (zI 4), .int (zI 16)])), (pl_, .inr (0, [.int (zI 0), .ref (en 5), .int (zI 0)])), (wk_, .inr (8, [.ref w1_, .ref w2_, .ref w3_, .ref w4_, .ref w5_, .ref w6_, .ref w7_, .ref w8_, .ref w9_, .int (zI 0)])), (w1_, iE 0 256 (fun _ => 0)), (w2_, iE 0 256 (fun _ => 0)), (w3_, iE 0 256 (fun _ => 0)), (w4_, iE 0 256 (fun _ => 0)), (w5_, iE 0 256 (fun _ => 0)), (w6_, iE 0 256 (fun _ => 0)), (w7_, iE 0 256 (fun _ => 0)), (w8_, iE 0 158 (fun _ => 0)), (w9_, iE 0 258 (fun _ => 0)), (df_, .inr (2, [.ref d1_, .ref d2_, .ref d3_, .ref d4_, .int (zI 0), .int (zI 4), .int (zI 4)])), (d1_, iE 1 225 (fun _ => 0)), (d2_, iE 0 225 (fun _ => 0)), (d3_, iE 0 225 (fun _ => 0)), (d4_, iE 1 64 (fun _ => 0)), (wn_, .inr (7, [.ref (en 0), .int (zI 1), .int (zI 1), .int (zI 1), .int (zI 0)])), (m_, .inr (3, [.int (zI 0), .ref m0_])), (m0_, oE 4 4 (r4 m1_ m2_ m3_ m4_)), (m1_, iE 0 64 (fun _ => 0)), (m2_, iE 0 64 (fun _ => 0)), (m3_, iE 0 64 (fun _ => 0)), (m4_, iE 0 64 (fun _ => 0))] [some (.ref a)] [] 60
  refine V_aload_n dX10_init_60 rfl ?_
  refine V_new (C0 := RX4) (T := TX4) (N := 2) (ci := 3) (fs := [.int (zI 0), .null]) iwX4 tyX4 tyX4_ok w195 w196 w11 rfl (fun j hj => by rcases (show j = 0 ∨ j = 1 by omega) with rfl | rfl <;> rfl) ⟨Nat.le_of_ble_eq_true rfl, Nat.le_of_ble_eq_true rfl⟩ dX10_init_61 (fun n_ => ?_)
  show V K sX10_init 25 5788 [(a, .inr (9, [.ref p_, .ref wk_, .ref df_, .ref wn_, .ref m_, .null, .null, .int (zI 0), .int (zI 0)])), (p_, .inr (4, [.ref pl_, .int (zI 4), .int (zI 4), .int (zI 16)])), (pl_, .inr (0, [.int (zI 0), .ref (en 5), .int (zI 0)])), (wk_, .inr (8, [.ref w1_, .ref w2_, .ref w3_, .ref w4_, .ref w5_, .ref w6_, .ref w7_, .ref w8_, .ref w9_, .int (zI 0)])), (w1_, iE 0 256 (fun _ => 0)), (w2_, iE 0 256 (fun _ => 0)), (w3_, iE 0 256 (fun _ => 0)), (w4_, iE 0 256 (fun _ => 0)), (w5_, iE 0 256 (fun _ => 0)), (w6_, iE 0 256 (fun _ => 0)), (w7_, iE 0 256 (fun _ => 0)), (w8_, iE 0 158 (fun _ => 0)), (w9_, iE 0 258 (fun _ => 0)), (df_, .inr (2, [.ref d1_, .ref d2_, .ref d3_, .ref d4_, .int (zI 0), .int (zI 4), .int (zI 4)])), (d1_, iE 1 225 (fun _ => 0)), (d2_, iE 0 225 (fun _ => 0)), (d3_, iE 0 225 (fun _ => 0)), (d4_, iE 1 64 (fun _ => 0)), (wn_, .inr (7, [.ref (en 0), .int (zI 1), .int (zI 1), .int (zI 1), .int (zI 0)])), (m_, .inr (3, [.int (zI 0), .ref m0_])), (m0_, oE 4 4 (r4 m1_ m2_ m3_ m4_)), (m1_, iE 0 64 (fun _ => 0)), (m2_, iE 0 64 (fun _ => 0)), (m3_, iE 0 64 (fun _ => 0)), (m4_, iE 0 64 (fun _ => 0)), (n_, .inr (3, [.int (zI 0), .null]))] [some (.ref a)] [.ref n_, .ref a] 64
  refine V_dup dX10_init_64 rfl ?_
  refine V_iconst dX10_init_65 ?_
  -- CellWindows$Machine.<init>
  refine V_callIB (As := [.int (zI 1)]) (b := n_) (wr := [(a, .inr (9, [.ref p_, .ref wk_, .ref df_, .ref wn_, .ref m_, .null, .null, .int (zI 0), .int (zI 0)])), (p_, .inr (4, [.ref pl_, .int (zI 4), .int (zI 4), .int (zI 16)])), (pl_, .inr (0, [.int (zI 0), .ref (en 5), .int (zI 0)])), (wk_, .inr (8, [.ref w1_, .ref w2_, .ref w3_, .ref w4_, .ref w5_, .ref w6_, .ref w7_, .ref w8_, .ref w9_, .int (zI 0)])), (w1_, iE 0 256 (fun _ => 0)), (w2_, iE 0 256 (fun _ => 0)), (w3_, iE 0 256 (fun _ => 0)), (w4_, iE 0 256 (fun _ => 0)), (w5_, iE 0 256 (fun _ => 0)), (w6_, iE 0 256 (fun _ => 0)), (w7_, iE 0 256 (fun _ => 0)), (w8_, iE 0 158 (fun _ => 0)), (w9_, iE 0 258 (fun _ => 0)), (df_, .inr (2, [.ref d1_, .ref d2_, .ref d3_, .ref d4_, .int (zI 0), .int (zI 4), .int (zI 4)])), (d1_, iE 1 225 (fun _ => 0)), (d2_, iE 0 225 (fun _ => 0)), (d3_, iE 0 225 (fun _ => 0)), (d4_, iE 1 64 (fun _ => 0)), (wn_, .inr (7, [.ref (en 0), .int (zI 1), .int (zI 1), .int (zI 1), .int (zI 0)])), (m_, .inr (3, [.int (zI 0), .ref m0_])), (m0_, oE 4 4 (r4 m1_ m2_ m3_ m4_)), (m1_, iE 0 64 (fun _ => 0)), (m2_, iE 0 64 (fun _ => 0)), (m3_, iE 0 64 (fun _ => 0)), (m4_, iE 0 64 (fun _ => 0))]) (wc := [(n_, .inr (3, [.int (zI 0), .null]))]) rfl hK (k_w4_init1 en n_) mokX4_init w197 w198 rfl rfl ⟨Nat.le_of_ble_eq_true rfl, Nat.le_of_ble_eq_true rfl⟩ rfl (Nat.le_of_ble_eq_true rfl) ⟨Nat.le_of_ble_eq_true rfl, Nat.le_of_ble_eq_true rfl⟩ dX10_init_66 (fun v w p5 => ?_)
  obtain ⟨n0_, n1_, n2_, n3_, n4_, rfl, rfl⟩ := p5
  show V K sX10_init 30 8596 [(a, .inr (9, [.ref p_, .ref wk_, .ref df_, .ref wn_, .ref m_, .null, .null, .int (zI 0), .int (zI 0)])), (p_, .inr (4, [.ref pl_, .int (zI 4), .int (zI 4), .int (zI 16)])), (pl_, .inr (0, [.int (zI 0), .ref (en 5), .int (zI 0)])), (wk_, .inr (8, [.ref w1_, .ref w2_, .ref w3_, .ref w4_, .ref w5_, .ref w6_, .ref w7_, .ref w8_, .ref w9_, .int (zI 0)])), (w1_, iE 0 256 (fun _ => 0)), (w2_, iE 0 256 (fun _ => 0)), (w3_, iE 0 256 (fun _ => 0)), (w4_, iE 0 256 (fun _ => 0)), (w5_, iE 0 256 (fun _ => 0)), (w6_, iE 0 256 (fun _ => 0)), (w7_, iE 0 256 (fun _ => 0)), (w8_, iE 0 158 (fun _ => 0)), (w9_, iE 0 258 (fun _ => 0)), (df_, .inr (2, [.ref d1_, .ref d2_, .ref d3_, .ref d4_, .int (zI 0), .int (zI 4), .int (zI 4)])), (d1_, iE 1 225 (fun _ => 0)), (d2_, iE 0 225 (fun _ => 0)), (d3_, iE 0 225 (fun _ => 0)), (d4_, iE 1 64 (fun _ => 0)), (wn_, .inr (7, [.ref (en 0), .int (zI 1), .int (zI 1), .int (zI 1), .int (zI 0)])), (m_, .inr (3, [.int (zI 0), .ref m0_])), (m0_, oE 4 4 (r4 m1_ m2_ m3_ m4_)), (m1_, iE 0 64 (fun _ => 0)), (m2_, iE 0 64 (fun _ => 0)), (m3_, iE 0 64 (fun _ => 0)), (m4_, iE 0 64 (fun _ => 0)), (n_, .inr (3, [.int (zI 1), .ref n0_])), (n0_, oE 4 4 (r4 n1_ n2_ n3_ n4_)), (n1_, iE 0 701 (fun _ => 0)), (n2_, iE 0 701 (fun _ => 0)), (n3_, iE 0 701 (fun _ => 0)), (n4_, iE 0 701 (fun _ => 0))] [some (.ref a)] [.ref n_, .ref a] 69
  refine V_putF (C0 := RX10) (T := TX10) (N := 9) (ci := 9) (fs := [.ref p_, .ref wk_, .ref df_, .ref wn_, .ref m_, .null, .null, .int (zI 0), .int (zI 0)]) hI 0 5 iwX10 (by decide) w238 rfl tyX10 tyX10_ok nmX10 rfl rfl rfl (Nat.le_of_ble_eq_true rfl) rfl rfl dX10_init_69 ?_
  show V K sX10_init 30 8596 [(a, .inr (9, [.ref p_, .ref wk_, .ref df_, .ref wn_, .ref m_, .ref n_, .null, .int (zI 0), .int (zI 0)])), (p_, .inr (4, [.ref pl_, .int (zI 4), .int (zI 4), .int (zI 16)])), (pl_, .inr (0, [.int (zI 0), .ref (en 5), .int (zI 0)])), (wk_, .inr (8, [.ref w1_, .ref w2_, .ref w3_, .ref w4_, .ref w5_, .ref w6_, .ref w7_, .ref w8_, .ref w9_, .int (zI 0)])), (w1_, iE 0 256 (fun _ => 0)), (w2_, iE 0 256 (fun _ => 0)), (w3_, iE 0 256 (fun _ => 0)), (w4_, iE 0 256 (fun _ => 0)), (w5_, iE 0 256 (fun _ => 0)), (w6_, iE 0 256 (fun _ => 0)), (w7_, iE 0 256 (fun _ => 0)), (w8_, iE 0 158 (fun _ => 0)), (w9_, iE 0 258 (fun _ => 0)), (df_, .inr (2, [.ref d1_, .ref d2_, .ref d3_, .ref d4_, .int (zI 0), .int (zI 4), .int (zI 4)])), (d1_, iE 1 225 (fun _ => 0)), (d2_, iE 0 225 (fun _ => 0)), (d3_, iE 0 225 (fun _ => 0)), (d4_, iE 1 64 (fun _ => 0)), (wn_, .inr (7, [.ref (en 0), .int (zI 1), .int (zI 1), .int (zI 1), .int (zI 0)])), (m_, .inr (3, [.int (zI 0), .ref m0_])), (m0_, oE 4 4 (r4 m1_ m2_ m3_ m4_)), (m1_, iE 0 64 (fun _ => 0)), (m2_, iE 0 64 (fun _ => 0)), (m3_, iE 0 64 (fun _ => 0)), (m4_, iE 0 64 (fun _ => 0)), (n_, .inr (3, [.int (zI 1), .ref n0_])), (n0_, oE 4 4 (r4 n1_ n2_ n3_ n4_)), (n1_, iE 0 701 (fun _ => 0)), (n2_, iE 0 701 (fun _ => 0)), (n3_, iE 0 701 (fun _ => 0)), (n4_, iE 0 701 (fun _ => 0))] [some (.ref a)] [] 72
  refine V_aload_n dX10_init_72 rfl ?_
  refine V_new (C0 := RX1) (T := TX1) (N := 4) (ci := 1) (fs := [.int (zI 0), .int (zI 0), .int (zI 0), .int (zI 0)]) iwX1 tyX1 tyX1_ok w210 w211 w12 rfl (fun j hj => by rcases (show j = 0 ∨ j = 1 ∨ j = 2 ∨ j = 3 by omega) with rfl | rfl | rfl | rfl <;> rfl) ⟨Nat.le_of_ble_eq_true rfl, Nat.le_of_ble_eq_true rfl⟩ dX10_init_73 (fun bs_ => ?_)
  show V K sX10_init 31 8600 [(a, .inr (9, [.ref p_, .ref wk_, .ref df_, .ref wn_, .ref m_, .ref n_, .null, .int (zI 0), .int (zI 0)])), (p_, .inr (4, [.ref pl_, .int (zI 4), .int (zI 4), .int (zI 16)])), (pl_, .inr (0, [.int (zI 0), .ref (en 5), .int (zI 0)])), (wk_, .inr (8, [.ref w1_, .ref w2_, .ref w3_, .ref w4_, .ref w5_, .ref w6_, .ref w7_, .ref w8_, .ref w9_, .int (zI 0)])), (w1_, iE 0 256 (fun _ => 0)), (w2_, iE 0 256 (fun _ => 0)), (w3_, iE 0 256 (fun _ => 0)), (w4_, iE 0 256 (fun _ => 0)), (w5_, iE 0 256 (fun _ => 0)), (w6_, iE 0 256 (fun _ => 0)), (w7_, iE 0 256 (fun _ => 0)), (w8_, iE 0 158 (fun _ => 0)), (w9_, iE 0 258 (fun _ => 0)), (df_, .inr (2, [.ref d1_, .ref d2_, .ref d3_, .ref d4_, .int (zI 0), .int (zI 4), .int (zI 4)])), (d1_, iE 1 225 (fun _ => 0)), (d2_, iE 0 225 (fun _ => 0)), (d3_, iE 0 225 (fun _ => 0)), (d4_, iE 1 64 (fun _ => 0)), (wn_, .inr (7, [.ref (en 0), .int (zI 1), .int (zI 1), .int (zI 1), .int (zI 0)])), (m_, .inr (3, [.int (zI 0), .ref m0_])), (m0_, oE 4 4 (r4 m1_ m2_ m3_ m4_)), (m1_, iE 0 64 (fun _ => 0)), (m2_, iE 0 64 (fun _ => 0)), (m3_, iE 0 64 (fun _ => 0)), (m4_, iE 0 64 (fun _ => 0)), (n_, .inr (3, [.int (zI 1), .ref n0_])), (n0_, oE 4 4 (r4 n1_ n2_ n3_ n4_)), (n1_, iE 0 701 (fun _ => 0)), (n2_, iE 0 701 (fun _ => 0)), (n3_, iE 0 701 (fun _ => 0)), (n4_, iE 0 701 (fun _ => 0)), (bs_, .inr (1, [.int (zI 0), .int (zI 0), .int (zI 0), .int (zI 0)]))] [some (.ref a)] [.ref bs_, .ref a] 76
  refine V_dup dX10_init_76 rfl ?_
  -- CellWindows$Best.<init>
  refine V_callIBN (As := []) (b := bs_) (wr := [(a, .inr (9, [.ref p_, .ref wk_, .ref df_, .ref wn_, .ref m_, .ref n_, .null, .int (zI 0), .int (zI 0)])), (p_, .inr (4, [.ref pl_, .int (zI 4), .int (zI 4), .int (zI 16)])), (pl_, .inr (0, [.int (zI 0), .ref (en 5), .int (zI 0)])), (wk_, .inr (8, [.ref w1_, .ref w2_, .ref w3_, .ref w4_, .ref w5_, .ref w6_, .ref w7_, .ref w8_, .ref w9_, .int (zI 0)])), (w1_, iE 0 256 (fun _ => 0)), (w2_, iE 0 256 (fun _ => 0)), (w3_, iE 0 256 (fun _ => 0)), (w4_, iE 0 256 (fun _ => 0)), (w5_, iE 0 256 (fun _ => 0)), (w6_, iE 0 256 (fun _ => 0)), (w7_, iE 0 256 (fun _ => 0)), (w8_, iE 0 158 (fun _ => 0)), (w9_, iE 0 258 (fun _ => 0)), (df_, .inr (2, [.ref d1_, .ref d2_, .ref d3_, .ref d4_, .int (zI 0), .int (zI 4), .int (zI 4)])), (d1_, iE 1 225 (fun _ => 0)), (d2_, iE 0 225 (fun _ => 0)), (d3_, iE 0 225 (fun _ => 0)), (d4_, iE 1 64 (fun _ => 0)), (wn_, .inr (7, [.ref (en 0), .int (zI 1), .int (zI 1), .int (zI 1), .int (zI 0)])), (m_, .inr (3, [.int (zI 0), .ref m0_])), (m0_, oE 4 4 (r4 m1_ m2_ m3_ m4_)), (m1_, iE 0 64 (fun _ => 0)), (m2_, iE 0 64 (fun _ => 0)), (m3_, iE 0 64 (fun _ => 0)), (m4_, iE 0 64 (fun _ => 0)), (n_, .inr (3, [.int (zI 1), .ref n0_])), (n0_, oE 4 4 (r4 n1_ n2_ n3_ n4_)), (n1_, iE 0 701 (fun _ => 0)), (n2_, iE 0 701 (fun _ => 0)), (n3_, iE 0 701 (fun _ => 0)), (n4_, iE 0 701 (fun _ => 0))]) (wc := [(bs_, .inr (1, [.int (zI 0), .int (zI 0), .int (zI 0), .int (zI 0)]))]) rfl hK (k_w1_init en bs_) mokX1_init wn212 w213 rfl rfl ⟨Nat.le_of_ble_eq_true rfl, Nat.le_of_ble_eq_true rfl⟩ rfl (Nat.le_of_ble_eq_true rfl) ⟨Nat.le_of_ble_eq_true rfl, Nat.le_of_ble_eq_true rfl⟩ dX10_init_77 (fun v w p6 => ?_)
  obtain ⟨rfl, rfl⟩ := p6
  show V K sX10_init 31 8600 [(a, .inr (9, [.ref p_, .ref wk_, .ref df_, .ref wn_, .ref m_, .ref n_, .null, .int (zI 0), .int (zI 0)])), (p_, .inr (4, [.ref pl_, .int (zI 4), .int (zI 4), .int (zI 16)])), (pl_, .inr (0, [.int (zI 0), .ref (en 5), .int (zI 0)])), (wk_, .inr (8, [.ref w1_, .ref w2_, .ref w3_, .ref w4_, .ref w5_, .ref w6_, .ref w7_, .ref w8_, .ref w9_, .int (zI 0)])), (w1_, iE 0 256 (fun _ => 0)), (w2_, iE 0 256 (fun _ => 0)), (w3_, iE 0 256 (fun _ => 0)), (w4_, iE 0 256 (fun _ => 0)), (w5_, iE 0 256 (fun _ => 0)), (w6_, iE 0 256 (fun _ => 0)), (w7_, iE 0 256 (fun _ => 0)), (w8_, iE 0 158 (fun _ => 0)), (w9_, iE 0 258 (fun _ => 0)), (df_, .inr (2, [.ref d1_, .ref d2_, .ref d3_, .ref d4_, .int (zI 0), .int (zI 4), .int (zI 4)])), (d1_, iE 1 225 (fun _ => 0)), (d2_, iE 0 225 (fun _ => 0)), (d3_, iE 0 225 (fun _ => 0)), (d4_, iE 1 64 (fun _ => 0)), (wn_, .inr (7, [.ref (en 0), .int (zI 1), .int (zI 1), .int (zI 1), .int (zI 0)])), (m_, .inr (3, [.int (zI 0), .ref m0_])), (m0_, oE 4 4 (r4 m1_ m2_ m3_ m4_)), (m1_, iE 0 64 (fun _ => 0)), (m2_, iE 0 64 (fun _ => 0)), (m3_, iE 0 64 (fun _ => 0)), (m4_, iE 0 64 (fun _ => 0)), (n_, .inr (3, [.int (zI 1), .ref n0_])), (n0_, oE 4 4 (r4 n1_ n2_ n3_ n4_)), (n1_, iE 0 701 (fun _ => 0)), (n2_, iE 0 701 (fun _ => 0)), (n3_, iE 0 701 (fun _ => 0)), (n4_, iE 0 701 (fun _ => 0)), (bs_, .inr (1, [.int (zI 0), .int (zI 0), .int (zI 0), .int (zI 0)]))] [some (.ref a)] [.ref bs_, .ref a] 80
  refine V_putF (C0 := RX10) (T := TX10) (N := 9) (ci := 9) (fs := [.ref p_, .ref wk_, .ref df_, .ref wn_, .ref m_, .ref n_, .null, .int (zI 0), .int (zI 0)]) hI 0 6 iwX10 (by decide) w239 rfl tyX10 tyX10_ok nmX10 rfl rfl rfl (Nat.le_of_ble_eq_true rfl) rfl rfl dX10_init_80 ?_
  show V K sX10_init 31 8600 [(a, .inr (9, [.ref p_, .ref wk_, .ref df_, .ref wn_, .ref m_, .ref n_, .ref bs_, .int (zI 0), .int (zI 0)])), (p_, .inr (4, [.ref pl_, .int (zI 4), .int (zI 4), .int (zI 16)])), (pl_, .inr (0, [.int (zI 0), .ref (en 5), .int (zI 0)])), (wk_, .inr (8, [.ref w1_, .ref w2_, .ref w3_, .ref w4_, .ref w5_, .ref w6_, .ref w7_, .ref w8_, .ref w9_, .int (zI 0)])), (w1_, iE 0 256 (fun _ => 0)), (w2_, iE 0 256 (fun _ => 0)), (w3_, iE 0 256 (fun _ => 0)), (w4_, iE 0 256 (fun _ => 0)), (w5_, iE 0 256 (fun _ => 0)), (w6_, iE 0 256 (fun _ => 0)), (w7_, iE 0 256 (fun _ => 0)), (w8_, iE 0 158 (fun _ => 0)), (w9_, iE 0 258 (fun _ => 0)), (df_, .inr (2, [.ref d1_, .ref d2_, .ref d3_, .ref d4_, .int (zI 0), .int (zI 4), .int (zI 4)])), (d1_, iE 1 225 (fun _ => 0)), (d2_, iE 0 225 (fun _ => 0)), (d3_, iE 0 225 (fun _ => 0)), (d4_, iE 1 64 (fun _ => 0)), (wn_, .inr (7, [.ref (en 0), .int (zI 1), .int (zI 1), .int (zI 1), .int (zI 0)])), (m_, .inr (3, [.int (zI 0), .ref m0_])), (m0_, oE 4 4 (r4 m1_ m2_ m3_ m4_)), (m1_, iE 0 64 (fun _ => 0)), (m2_, iE 0 64 (fun _ => 0)), (m3_, iE 0 64 (fun _ => 0)), (m4_, iE 0 64 (fun _ => 0)), (n_, .inr (3, [.int (zI 1), .ref n0_])), (n0_, oE 4 4 (r4 n1_ n2_ n3_ n4_)), (n1_, iE 0 701 (fun _ => 0)), (n2_, iE 0 701 (fun _ => 0)), (n3_, iE 0 701 (fun _ => 0)), (n4_, iE 0 701 (fun _ => 0)), (bs_, .inr (1, [.int (zI 0), .int (zI 0), .int (zI 0), .int (zI 0)]))] [some (.ref a)] [] 83
  refine V_aload_n dX10_init_83 rfl ?_
  refine V_iconst dX10_init_84 ?_
  refine V_putf (C0 := RX10) (T := TX10) (N := 9) (ci := 9) (fs := [.ref p_, .ref wk_, .ref df_, .ref wn_, .ref m_, .ref n_, .ref bs_, .int (zI 0), .int (zI 0)]) 0 7 iwX10 (by decide) w240 (Or.inl rfl) tyX10 tyX10_ok nmX10 rfl rfl rfl (Nat.le_of_ble_eq_true rfl) rfl rfl dX10_init_85 ?_
  show V K sX10_init 31 8600 [(a, .inr (9, [.ref p_, .ref wk_, .ref df_, .ref wn_, .ref m_, .ref n_, .ref bs_, .int (zI 1), .int (zI 0)])), (p_, .inr (4, [.ref pl_, .int (zI 4), .int (zI 4), .int (zI 16)])), (pl_, .inr (0, [.int (zI 0), .ref (en 5), .int (zI 0)])), (wk_, .inr (8, [.ref w1_, .ref w2_, .ref w3_, .ref w4_, .ref w5_, .ref w6_, .ref w7_, .ref w8_, .ref w9_, .int (zI 0)])), (w1_, iE 0 256 (fun _ => 0)), (w2_, iE 0 256 (fun _ => 0)), (w3_, iE 0 256 (fun _ => 0)), (w4_, iE 0 256 (fun _ => 0)), (w5_, iE 0 256 (fun _ => 0)), (w6_, iE 0 256 (fun _ => 0)), (w7_, iE 0 256 (fun _ => 0)), (w8_, iE 0 158 (fun _ => 0)), (w9_, iE 0 258 (fun _ => 0)), (df_, .inr (2, [.ref d1_, .ref d2_, .ref d3_, .ref d4_, .int (zI 0), .int (zI 4), .int (zI 4)])), (d1_, iE 1 225 (fun _ => 0)), (d2_, iE 0 225 (fun _ => 0)), (d3_, iE 0 225 (fun _ => 0)), (d4_, iE 1 64 (fun _ => 0)), (wn_, .inr (7, [.ref (en 0), .int (zI 1), .int (zI 1), .int (zI 1), .int (zI 0)])), (m_, .inr (3, [.int (zI 0), .ref m0_])), (m0_, oE 4 4 (r4 m1_ m2_ m3_ m4_)), (m1_, iE 0 64 (fun _ => 0)), (m2_, iE 0 64 (fun _ => 0)), (m3_, iE 0 64 (fun _ => 0)), (m4_, iE 0 64 (fun _ => 0)), (n_, .inr (3, [.int (zI 1), .ref n0_])), (n0_, oE 4 4 (r4 n1_ n2_ n3_ n4_)), (n1_, iE 0 701 (fun _ => 0)), (n2_, iE 0 701 (fun _ => 0)), (n3_, iE 0 701 (fun _ => 0)), (n4_, iE 0 701 (fun _ => 0)), (bs_, .inr (1, [.int (zI 0), .int (zI 0), .int (zI 0), .int (zI 0)]))] [some (.ref a)] [] 88
  refine V_aload_n dX10_init_88 rfl ?_
  refine V_iconst dX10_init_89 ?_
  refine V_putf (C0 := RX10) (T := TX10) (N := 9) (ci := 9) (fs := [.ref p_, .ref wk_, .ref df_, .ref wn_, .ref m_, .ref n_, .ref bs_, .int (zI 1), .int (zI 0)]) 0 8 iwX10 (by decide) w241 (Or.inl rfl) tyX10 tyX10_ok nmX10 rfl rfl rfl (Nat.le_of_ble_eq_true rfl) rfl rfl dX10_init_90 ?_
  show V K sX10_init 31 8600 [(a, .inr (9, [.ref p_, .ref wk_, .ref df_, .ref wn_, .ref m_, .ref n_, .ref bs_, .int (zI 1), .int (zI 0)])), (p_, .inr (4, [.ref pl_, .int (zI 4), .int (zI 4), .int (zI 16)])), (pl_, .inr (0, [.int (zI 0), .ref (en 5), .int (zI 0)])), (wk_, .inr (8, [.ref w1_, .ref w2_, .ref w3_, .ref w4_, .ref w5_, .ref w6_, .ref w7_, .ref w8_, .ref w9_, .int (zI 0)])), (w1_, iE 0 256 (fun _ => 0)), (w2_, iE 0 256 (fun _ => 0)), (w3_, iE 0 256 (fun _ => 0)), (w4_, iE 0 256 (fun _ => 0)), (w5_, iE 0 256 (fun _ => 0)), (w6_, iE 0 256 (fun _ => 0)), (w7_, iE 0 256 (fun _ => 0)), (w8_, iE 0 158 (fun _ => 0)), (w9_, iE 0 258 (fun _ => 0)), (df_, .inr (2, [.ref d1_, .ref d2_, .ref d3_, .ref d4_, .int (zI 0), .int (zI 4), .int (zI 4)])), (d1_, iE 1 225 (fun _ => 0)), (d2_, iE 0 225 (fun _ => 0)), (d3_, iE 0 225 (fun _ => 0)), (d4_, iE 1 64 (fun _ => 0)), (wn_, .inr (7, [.ref (en 0), .int (zI 1), .int (zI 1), .int (zI 1), .int (zI 0)])), (m_, .inr (3, [.int (zI 0), .ref m0_])), (m0_, oE 4 4 (r4 m1_ m2_ m3_ m4_)), (m1_, iE 0 64 (fun _ => 0)), (m2_, iE 0 64 (fun _ => 0)), (m3_, iE 0 64 (fun _ => 0)), (m4_, iE 0 64 (fun _ => 0)), (n_, .inr (3, [.int (zI 1), .ref n0_])), (n0_, oE 4 4 (r4 n1_ n2_ n3_ n4_)), (n1_, iE 0 701 (fun _ => 0)), (n2_, iE 0 701 (fun _ => 0)), (n3_, iE 0 701 (fun _ => 0)), (n4_, iE 0 701 (fun _ => 0)), (bs_, .inr (1, [.int (zI 0), .int (zI 0), .int (zI 0), .int (zI 0)]))] [some (.ref a)] [] 93
  refine V_vret hR rfl (Nat.le_of_ble_eq_true rfl) (Nat.le_of_ble_eq_true rfl) dX10_init_93 ?_
  exact ⟨p_, pl_, wk_, w1_, w2_, w3_, w4_, w5_, w6_, w7_, w8_, w9_, df_, d1_, d2_, d3_, d4_, wn_, m_, m0_, m1_, m2_, m3_, m4_, n_, n0_, n1_, n2_, n3_, n4_, bs_, rfl, rfl⟩

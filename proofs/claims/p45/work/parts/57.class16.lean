/-! the class: a machine's step -/
def frN (m : Int) (κ0 κ : St) : Prop := ∀ k : Nat, (k < 70 + 4 * m.toNat ∨ 73 + 4 * m.toNat < k) → κ k = κ0 k
theorem frN.rf (m : Int) (κ : St) : frN m κ κ := fun _ _ => rfl
theorem frN.tr {m : Int} {a b d : St} (h1 : frN m a b) (h2 : frN m b d) : frN m a d := fun j hj => (h2 j hj).trans (h1 j hj)
theorem frN.frM {m : Int} {κ0 κ : St} (h : frN m κ0 κ) (hm : 0 ≤ m ∧ m ≤ 1) : frM κ0 κ := fun k hk => h k (by omega)
theorem frN.upd {m : Int} {κ0 κ : St} (h : frN m κ0 κ) {k : Nat} {i v : Int} (hk : 70 + 4 * m.toNat ≤ k ∧ k ≤ 73 + 4 * m.toNat) : frN m κ0 (up κ k i v) := fun j hj => by rw [up_ne (by omega)]; exact h j hj
theorem frN.updW {m : Int} {κ0 κ : St} (h : frN m κ0 κ) {k : Nat} {f : Int → Int} (hk : 70 + 4 * m.toNat ≤ k ∧ k ≤ 73 + 4 * m.toNat) : frN m κ0 (upW κ k f) := fun j hj => by rw [upW_ne (by omega)]; exact h j hj
theorem KV.upd {m s0 q0 v : Int} {g : Int → Int → Int} {κ : St} (h : KV m g κ) (hs : 0 ≤ s0) : KV m (fup2 g s0 q0 v) (up κ (70 + 4 * m.toNat + s0.toNat) q0 v) := by
  intro s q h0 h1 h2 h3
  unfold fup2
  by_cases e : s = s0
  · rw [e, up_eq]
    by_cases e2 : q = q0
    · rw [e2, fup_eq, if_pos ⟨rfl, rfl⟩]
    · rw [fup_ne e2, if_neg (fun z => e2 z.2)]
      rw [← e]; exact h s q h0 h1 h2 h3
  · rw [up_ne (by omega), if_neg (fun z => e z.1)]
    exact h s q h0 h1 h2 h3
noncomputable def gsm (P : St) (m : Int) (g : Int → Int → Int) (k n : Int) : Int := P 3 (k / pt P) + smv (fun j => P 6 (4 * (k / pt P) + j) * tkr P m g (P 5 (4 * (k / pt P) + j)) (k % pt P / P 0 1 - P 7 (4 * (k / pt P) + j)) (k % pt P % P 0 1 - P 8 (4 * (k / pt P) + j))) n
noncomputable def gvl (P : St) (m : Int) (g : Int → Int → Int) (k : Int) : Int := gsm P m g k (P 4 (k / pt P)) % 9973
theorem gsm_s (P : St) (m : Int) (g : Int → Int → Int) (k : Int) {n : Int} (h : 0 ≤ n) : gsm P m g k (n + 1) = gsm P m g k n + P 6 (4 * (k / pt P) + n) * tkr P m g (P 5 (4 * (k / pt P) + n)) (k % pt P / P 0 1 - P 7 (4 * (k / pt P) + n)) (k % pt P % P 0 1 - P 8 (4 * (k / pt P) + n)) := by
  unfold gsm
  rw [smv_s _ h]; omega
theorem tkr_b {P : St} {m : Int} {g : Int → Int → Int} (hg : GB g) (f x y : Int) : 0 ≤ tkr P m g f x y ∧ tkr P m g f x y ≤ 9972 := by
  unfold tkr
  split
  · exact hg _ _
  · omega
theorem gsm_b {P : St} (hM : MI P) {m : Int} {g : Int → Int → Int} (hg : GB g) {k : Int} (hk : 0 ≤ k) (hkn : k < al P) {n : Int} (hn : 0 ≤ n) (hn2 : n ≤ P 4 (k / pt P)) : 0 ≤ gsm P m g k n ∧ gsm P m g k n ≤ 400000 := by
  have hc := cell_st hM hk hkn
  have h4 := hM.r4 (i := k / pt P) ⟨hc.1, hc.2.1⟩
  have h3 := (hM.2.2.2.2.2.1 (k / pt P) hc.1 (by have := hM.2.2.1; omega)).1
  have hs := smv_b (f := fun j => P 6 (4 * (k / pt P) + j) * tkr P m g (P 5 (4 * (k / pt P) + j)) (k % pt P / P 0 1 - P 7 (4 * (k / pt P) + j)) (k % pt P % P 0 1 - P 8 (4 * (k / pt P) + j))) (B := 9 * 9972) n hn (fun j a b => by
    have hr := hM.rd (i := k / pt P) (j := j) ⟨hc.1, hc.2.1⟩ ⟨a, by omega⟩
    have ht := tkr_b hg (P := P) (m := m) (P 5 (4 * (k / pt P) + j)) (k % pt P / P 0 1 - P 7 (4 * (k / pt P) + j)) (k % pt P % P 0 1 - P 8 (4 * (k / pt P) + j))
    exact mulB (by omega) hr.2.1.2 ht.1 ht.2)
  unfold gsm
  have h5 : n * (9 * 9972) ≤ 4 * (9 * 9972) := Int.mul_le_mul_of_nonneg_right (by omega) (by decide)
  omega
set_option maxRecDepth 100000 in
set_option maxHeartbeats 4000000 in
theorem k_w4_doStep (en : Nat → Nat) (c : Nat → Nat) (κ : St) (m : Int) (k : Int) (P : St) (bw cw : Int) (g : Int → Int → Int) (hp : MI P ∧ CI P κ ∧ (0 ≤ m ∧ m ≤ 1) ∧ WR P κ ∧ KV m g κ ∧ Arr P bw cw κ ∧ GB g ∧ (0 ≤ k ∧ k < al P)) : MC (EN en) yX4_doStep sX4_doStep [.ref (c (18 + 6 * Int.toNat m)), .ref (c 1), .ref (c 2), .int (zI k)] (fm (cO en c κ)) (fun v w => ∃ κ2 : St, v = some (.int (zI (gvl P m g k))) ∧ w = fm (cO en c κ2) ∧ (CI P κ2) ∧ (frN m κ κ2) ∧ (KV m (fup2 g (k / pt P) (plm P m (k / pt P) (k % pt P)) (gvl P m g k)) κ2)) := by
  refine MC.of (EN.stb en) [some (.ref (c (18 + 6 * Int.toNat m))), some (.ref (c 1)), some (.ref (c 2)), some (.int (zI k)), none, none, none, none, none, none, none] 7 rfl rfl rfl (by simp [Value.category]) (Nat.le_of_ble_eq_true rfl) (fun K hK hR => ?_)
  obtain ⟨hM, hC, hp⟩ := hp
  have hN4 := hM.2.2.1
  obtain ⟨hm, hW, hK9, hA, hg, hk⟩ := hp
  have hal := hM.als
  have hcs := cell_st hM hk.1 hk.2
  have hpl := place_rc hM hcs.2.2.1 hcs.2.2.2.1
  have hm1 := hM.1
  have hm2 := hM.2.1
  have hs : 0 ≤ k / pt P ∧ k / pt P < P 0 2 := ⟨hcs.1, hcs.2.1⟩
  have hr4 := hM.r4 hs
  have loop_48 : ∀ (n0 : Nat) (i : Int) (sum : Int), (P 4 (k / pt P) - i).toNat = n0 → (0 ≤ i ∧ i ≤ P 4 (k / pt P)) → (sum = gsm P m g k i) → V K sX4_doStep 0 0 (fm (cO en c κ)) [some (.ref (c (18 + 6 * Int.toNat m))), some (.ref (c 1)), some (.ref (c 2)), some (.int (zI k)), some (.int (zI (k / pt P))), some (.int (zI (k % pt P / P 0 1))), some (.int (zI (k % pt P % P 0 1))), some (.ref (c (33 + 8 * Int.toNat (k / pt P)))), some (.int (zI sum)), some (.int (zI i)), none] [] 48 := by
    intro n0
    induction n0 using Nat.strongRecOn with
    | _ n0 ih_48 =>
    intro i sum hm_48 hi hsm
    refine V_iload dX4_doStep_48 rfl ?_
    refine V_aload dX4_doStep_50 rfl ?_
    refine VO_getN (C0 := RX7) (T := TX7) (N := 5) (ci := 6) (fs := smF c κ (k / pt P)) (33 + 8 * Int.toNat (k / pt P)) 1 iwX7 (by decide) hK wn617 rfl (at_sm ((hC).sm hM (by omega))) rfl dX4_doStep_52 ?_
    refine VO_callVF (As := []) (b := c (35 + 8 * Int.toNat (k / pt P))) (i := 35 + 8 * Int.toNat (k / pt P)) (ci := 0) (fs := alF en c κ (k / pt P)) (T := TJx4a65c) (N := 3) (at_al ((hC).wn hM (by omega))) rfl hK (k_sizer en c κ (k / pt P) P ⟨hM, hC, by first | assumption | omega | exact ⟨by omega, by omega⟩ | exact ⟨⟨by omega, by omega⟩, by omega, by omega⟩ | exact ⟨⟨by omega, by omega⟩, ⟨by omega, by omega⟩⟩ | exact ⟨⟨by omega, by omega⟩, ⟨by omega, by omega⟩, by omega, by omega⟩⟩) mokJx4a65c_size_8abf5 w485 w270 w271 ⟨Nat.le_of_ble_eq_true rfl, Nat.le_of_ble_eq_true rfl⟩ rfl (Nat.le_of_ble_eq_true rfl) ⟨Nat.le_of_ble_eq_true rfl, Nat.le_of_ble_eq_true rfl⟩ dX4_doStep_55 (fun v w p_1 => ?_)
    obtain ⟨rfl, rfl⟩ := p_1
    show V K sX4_doStep 0 0 (fm (cO en c κ)) [some (.ref (c (18 + 6 * Int.toNat m))), some (.ref (c 1)), some (.ref (c 2)), some (.int (zI k)), some (.int (zI (k / pt P))), some (.int (zI (k % pt P / P 0 1))), some (.int (zI (k % pt P % P 0 1))), some (.ref (c (33 + 8 * Int.toNat (k / pt P)))), some (.int (zI sum)), some (.int (zI i)), none] [.int (zI (P 4 (k / pt P))), .int (zI i)] 58
    refine V_icmp_ge (tgt := 119) dX4_doStep_58 (by decide) ⟨⟨by omega, by omega⟩, ⟨by omega, by omega⟩⟩ (fun c_2 => ?_) (fun c_2 => ?_)
    · have ei : i = P 4 (k / pt P) := by omega
      have hgb := gsm_b hM (m := m) hg hk.1 hk.2 hi.1 hi.2
      rw [← hsm] at hgb
      refine V_iload dX4_doStep_119 rfl ?_
      refine V_sipush dX4_doStep_121 (by decide) ?_
      refine V_iremN dX4_doStep_124 ⟨⟨by omega, by omega⟩, ⟨by omega, by omega⟩, by omega, by omega⟩ ?_
      refine V_istore (L' := [some (.ref (c (18 + 6 * Int.toNat m))), some (.ref (c 1)), some (.ref (c 2)), some (.int (zI k)), some (.int (zI (k / pt P))), some (.int (zI (k % pt P / P 0 1))), some (.int (zI (k % pt P % P 0 1))), some (.ref (c (33 + 8 * Int.toNat (k / pt P)))), some (.int (zI sum)), some (.int (zI (sum % 9973))), none]) dX4_doStep_125 (by decide) rfl ?_
      refine V_aload_n dX4_doStep_127 rfl ?_
      refine VO_getf (C0 := RX4) (T := TX4) (N := 2) (ci := 3) (fs := mcF c m) (18 + 6 * Int.toNat m) 1 iwX4 (by decide) w204 (Or.inl rfl) rfl (at_mc (hm)) rfl dX4_doStep_128 ?_
      refine V_iload dX4_doStep_131 rfl ?_
      refine VO_aaldA (19 + 6 * Int.toNat m) (at_ka (hm)) ⟨by omega, by omega⟩ (by decide) (kA_at ⟨by omega, by omega⟩) dX4_doStep_133 ?_
      refine V_aload_n dX4_doStep_134 rfl ?_
      refine V_aload_n dX4_doStep_135 rfl ?_
      refine V_iload dX4_doStep_136 rfl ?_
      refine V_iload dX4_doStep_138 rfl ?_
      refine V_iload dX4_doStep_140 rfl ?_
      refine VO_callVF (As := [.ref (c 1), .int (zI (k / pt P)), .int (zI (k % pt P / P 0 1)), .int (zI (k % pt P % P 0 1))]) (b := c (18 + 6 * Int.toNat m)) (i := 18 + 6 * Int.toNat m) (ci := 3) (fs := mcF c m) (T := TX4) (N := 2) (at_mc (hm)) rfl hK (k_w4_placeIn en c κ m (k / pt P) (k % pt P / P 0 1) (k % pt P % P 0 1) P ⟨hM, hC, hm, hW, hs, ⟨by omega, by omega, by omega, by omega⟩⟩) mokX4_placeIn w495 w497 wps0_12 ⟨Nat.le_of_ble_eq_true rfl, Nat.le_of_ble_eq_true rfl⟩ rfl (Nat.le_of_ble_eq_true rfl) ⟨Nat.le_of_ble_eq_true rfl, Nat.le_of_ble_eq_true rfl⟩ dX4_doStep_142 (fun v w p_3 => ?_)
      obtain ⟨rfl, rfl⟩ := p_3
      show V K sX4_doStep 0 0 (fm (cO en c κ)) [some (.ref (c (18 + 6 * Int.toNat m))), some (.ref (c 1)), some (.ref (c 2)), some (.int (zI k)), some (.int (zI (k / pt P))), some (.int (zI (k % pt P / P 0 1))), some (.int (zI (k % pt P % P 0 1))), some (.ref (c (33 + 8 * Int.toNat (k / pt P)))), some (.int (zI sum)), some (.int (zI (sum % 9973))), none] [.int (zI (plm P m (k / pt P) ((k % pt P / P 0 1) * P 0 1 + (k % pt P % P 0 1)))), .ref (c (20 + 6 * Int.toNat m + Int.toNat (k / pt P)))] 145
      have hlb := plm_b hM hm hs hcs.2.2.1 hcs.2.2.2.1
      refine V_eqT (y := zI (plm P m (k / pt P) (k % pt P))) (congrArg zI (congrArg (plm P m (k / pt P)) (by rw [Int.mul_comm]; omega))) ?_
      refine V_iload dX4_doStep_145 rfl ?_
      refine VO_iast (20 + 6 * Int.toNat m + Int.toNat (k / pt P)) (at_kr (by first | assumption | exact ⟨⟨by omega, by omega⟩, Or.inl rfl⟩ | exact ⟨⟨by omega, by omega⟩, Or.inr (by omega)⟩ | exact ⟨⟨by omega, by omega⟩, by omega⟩ | exact ⟨⟨by omega, by omega⟩, ⟨by omega, by omega⟩, by omega, by omega⟩ | exact ⟨by omega, by omega⟩)) ⟨hlb.1, hlb.2⟩ (kL_b _) dX4_doStep_147 (st_kr (plm P m (k / pt P) (k % pt P)) (sum % 9973) (by first | assumption | exact ⟨⟨by omega, by omega⟩, Or.inl rfl⟩ | exact ⟨⟨by omega, by omega⟩, Or.inr (by omega)⟩ | exact ⟨⟨by omega, by omega⟩, by omega⟩ | exact ⟨⟨by omega, by omega⟩, ⟨by omega, by omega⟩, by omega, by omega⟩ | exact ⟨by omega, by omega⟩)) ?_
      refine V_iload dX4_doStep_148 rfl ?_
      refine V_iret hR rfl (Nat.le_of_ble_eq_true rfl) (Nat.le_of_ble_eq_true rfl) dX4_doStep_150 ?_
      have ev : sum % 9973 = gvl P m g k := by unfold gvl; rw [hsm, ei]
      exact ⟨_, ziE ev, rfl, ((hC).up (by omega)), (frN.rf m κ).upd (by omega), by rw [ev]; exact hK9.upd hcs.1⟩
    · have hrd := hM.rd hs (j := i) ⟨hi.1, by omega⟩
      refine V_aload dX4_doStep_61 rfl ?_
      refine VO_getN (C0 := RX7) (T := TX7) (N := 5) (ci := 6) (fs := smF c κ (k / pt P)) (33 + 8 * Int.toNat (k / pt P)) 1 iwX7 (by decide) hK wn617 rfl (at_sm ((hC).sm hM (by omega))) rfl dX4_doStep_63 ?_
      refine V_iload dX4_doStep_66 rfl ?_
      refine VO_callVF (As := [.int (zI i)]) (b := c (35 + 8 * Int.toNat (k / pt P))) (i := 35 + 8 * Int.toNat (k / pt P)) (ci := 0) (fs := alF en c κ (k / pt P)) (T := TJx4a65c) (N := 3) (at_al ((hC).wn hM (by omega))) rfl hK (k_getr en c κ (k / pt P) i P ⟨hM, hC, by first | assumption | omega | exact ⟨by omega, by omega⟩ | exact ⟨⟨by omega, by omega⟩, by omega, by omega⟩ | exact ⟨⟨by omega, by omega⟩, ⟨by omega, by omega⟩⟩ | exact ⟨⟨by omega, by omega⟩, ⟨by omega, by omega⟩, by omega, by omega⟩⟩) mokJx4a65c_get_915e3 w483 w274 w275 ⟨Nat.le_of_ble_eq_true rfl, Nat.le_of_ble_eq_true rfl⟩ rfl (Nat.le_of_ble_eq_true rfl) ⟨Nat.le_of_ble_eq_true rfl, Nat.le_of_ble_eq_true rfl⟩ dX4_doStep_68 (fun v w p_4 => ?_)
      obtain ⟨rfl, rfl⟩ := p_4
      show V K sX4_doStep 0 0 (fm (cO en c κ)) [some (.ref (c (18 + 6 * Int.toNat m))), some (.ref (c 1)), some (.ref (c 2)), some (.int (zI k)), some (.int (zI (k / pt P))), some (.int (zI (k % pt P / P 0 1))), some (.int (zI (k % pt P % P 0 1))), some (.ref (c (33 + 8 * Int.toNat (k / pt P)))), some (.int (zI sum)), some (.int (zI i)), none] [.ref (c (37 + 8 * Int.toNat (k / pt P) + Int.toNat i))] 71
      refine VO_castS (37 + 8 * Int.toNat (k / pt P) + Int.toNat i) (at_rd ((hC).rd hM (by omega) (by omega))) rfl w486 dX4_doStep_71 ?_
      refine V_astore (L' := [some (.ref (c (18 + 6 * Int.toNat m))), some (.ref (c 1)), some (.ref (c 2)), some (.int (zI k)), some (.int (zI (k / pt P))), some (.int (zI (k % pt P / P 0 1))), some (.int (zI (k % pt P % P 0 1))), some (.ref (c (33 + 8 * Int.toNat (k / pt P)))), some (.int (zI sum)), some (.int (zI i)), some (.ref (c (37 + 8 * Int.toNat (k / pt P) + Int.toNat i)))]) dX4_doStep_74 (by decide) rfl ?_
      refine V_iload dX4_doStep_76 rfl ?_
      refine V_aload dX4_doStep_78 rfl ?_
      refine VO_getN (C0 := RX6) (T := TX6) (N := 4) (ci := 5) (fs := rdF κ (k / pt P) i) (37 + 8 * Int.toNat (k / pt P) + Int.toNat i) 1 iwX6 (by decide) hK wn736 rfl (at_rd ((hC).rd hM (by omega) (by omega))) rfl dX4_doStep_80 ?_
      refine V_eqT (y := zI (P 6 (4 * (k / pt P) + i))) (congrArg zI (congrFun ((hC).1 6 (by decide) (by decide)) _)) ?_
      refine V_aload_n dX4_doStep_83 rfl ?_
      refine V_aload_n dX4_doStep_84 rfl ?_
      refine V_aload dX4_doStep_85 rfl ?_
      refine VO_getN (C0 := RX6) (T := TX6) (N := 4) (ci := 5) (fs := rdF κ (k / pt P) i) (37 + 8 * Int.toNat (k / pt P) + Int.toNat i) 0 iwX6 (by decide) hK wn732 rfl (at_rd ((hC).rd hM (by omega) (by omega))) rfl dX4_doStep_87 ?_
      refine V_eqT (y := zI (P 5 (4 * (k / pt P) + i))) (congrArg zI (congrFun ((hC).1 5 (by decide) (by decide)) _)) ?_
      refine V_iload dX4_doStep_90 rfl ?_
      refine V_aload dX4_doStep_92 rfl ?_
      refine VO_getN (C0 := RX6) (T := TX6) (N := 4) (ci := 5) (fs := rdF κ (k / pt P) i) (37 + 8 * Int.toNat (k / pt P) + Int.toNat i) 2 iwX6 (by decide) hK wn738 rfl (at_rd ((hC).rd hM (by omega) (by omega))) rfl dX4_doStep_94 ?_
      refine V_eqT (y := zI (P 7 (4 * (k / pt P) + i))) (congrArg zI (congrFun ((hC).1 7 (by decide) (by decide)) _)) ?_
      refine V_isub dX4_doStep_97 ?_
      refine V_iload dX4_doStep_98 rfl ?_
      refine V_aload dX4_doStep_100 rfl ?_
      refine VO_getN (C0 := RX6) (T := TX6) (N := 4) (ci := 5) (fs := rdF κ (k / pt P) i) (37 + 8 * Int.toNat (k / pt P) + Int.toNat i) 3 iwX6 (by decide) hK wn742 rfl (at_rd ((hC).rd hM (by omega) (by omega))) rfl dX4_doStep_102 ?_
      refine V_eqT (y := zI (P 8 (4 * (k / pt P) + i))) (congrArg zI (congrFun ((hC).1 8 (by decide) (by decide)) _)) ?_
      refine V_isub dX4_doStep_105 ?_
      refine VO_callVF (As := [.ref (c 1), .int (zI (P 5 (4 * (k / pt P) + i))), .int (zI ((k % pt P / P 0 1) - (P 7 (4 * (k / pt P) + i)))), .int (zI ((k % pt P % P 0 1) - (P 8 (4 * (k / pt P) + i))))]) (b := c (18 + 6 * Int.toNat m)) (i := 18 + 6 * Int.toNat m) (ci := 3) (fs := mcF c m) (T := TX4) (N := 2) (at_mc (hm)) rfl hK (k_w4_taken en c κ m (P 5 (4 * (k / pt P) + i)) ((k % pt P / P 0 1) - (P 7 (4 * (k / pt P) + i))) ((k % pt P % P 0 1) - (P 8 (4 * (k / pt P) + i))) P g ⟨hM, hC, hm, hW, hK9, ⟨by omega, by omega⟩, ⟨by omega, by omega⟩, ⟨by omega, by omega⟩⟩) mokX4_taken w487 w489 wps0_11 ⟨Nat.le_of_ble_eq_true rfl, Nat.le_of_ble_eq_true rfl⟩ rfl (Nat.le_of_ble_eq_true rfl) ⟨Nat.le_of_ble_eq_true rfl, Nat.le_of_ble_eq_true rfl⟩ dX4_doStep_106 (fun v w p_5 => ?_)
      obtain ⟨rfl, rfl⟩ := p_5
      show V K sX4_doStep 0 0 (fm (cO en c κ)) [some (.ref (c (18 + 6 * Int.toNat m))), some (.ref (c 1)), some (.ref (c 2)), some (.int (zI k)), some (.int (zI (k / pt P))), some (.int (zI (k % pt P / P 0 1))), some (.int (zI (k % pt P % P 0 1))), some (.ref (c (33 + 8 * Int.toNat (k / pt P)))), some (.int (zI sum)), some (.int (zI i)), some (.ref (c (37 + 8 * Int.toNat (k / pt P) + Int.toNat i)))] [.int (zI (tkr P m g (P 5 (4 * (k / pt P) + i)) ((k % pt P / P 0 1) - (P 7 (4 * (k / pt P) + i))) ((k % pt P % P 0 1) - (P 8 (4 * (k / pt P) + i))))), .int (zI (P 6 (4 * (k / pt P) + i))), .int (zI sum)] 109
      refine V_imul dX4_doStep_109 ?_
      refine V_iadd dX4_doStep_110 ?_
      refine V_istore (L' := [some (.ref (c (18 + 6 * Int.toNat m))), some (.ref (c 1)), some (.ref (c 2)), some (.int (zI k)), some (.int (zI (k / pt P))), some (.int (zI (k % pt P / P 0 1))), some (.int (zI (k % pt P % P 0 1))), some (.ref (c (33 + 8 * Int.toNat (k / pt P)))), some (.int (zI (sum + ((P 6 (4 * (k / pt P) + i)) * (tkr P m g (P 5 (4 * (k / pt P) + i)) ((k % pt P / P 0 1) - (P 7 (4 * (k / pt P) + i))) ((k % pt P % P 0 1) - (P 8 (4 * (k / pt P) + i)))))))), some (.int (zI i)), some (.ref (c (37 + 8 * Int.toNat (k / pt P) + Int.toNat i)))]) dX4_doStep_111 (by decide) rfl ?_
      refine V_iinc (L' := [some (.ref (c (18 + 6 * Int.toNat m))), some (.ref (c 1)), some (.ref (c 2)), some (.int (zI k)), some (.int (zI (k / pt P))), some (.int (zI (k % pt P / P 0 1))), some (.int (zI (k % pt P % P 0 1))), some (.ref (c (33 + 8 * Int.toNat (k / pt P)))), some (.int (zI (sum + ((P 6 (4 * (k / pt P) + i)) * (tkr P m g (P 5 (4 * (k / pt P) + i)) ((k % pt P / P 0 1) - (P 7 (4 * (k / pt P) + i))) ((k % pt P % P 0 1) - (P 8 (4 * (k / pt P) + i)))))))), some (.int (zI (i + 1))), some (.ref (c (37 + 8 * Int.toNat (k / pt P) + Int.toNat i)))]) dX4_doStep_113 (by decide) rfl rfl ?_
      refine V_goto (tgt := 48) dX4_doStep_116 (by decide) ?_
      refine V_mask (L' := [some (.ref (c (18 + 6 * Int.toNat m))), some (.ref (c 1)), some (.ref (c 2)), some (.int (zI k)), some (.int (zI (k / pt P))), some (.int (zI (k % pt P / P 0 1))), some (.int (zI (k % pt P % P 0 1))), some (.ref (c (33 + 8 * Int.toNat (k / pt P)))), some (.int (zI (sum + ((P 6 (4 * (k / pt P) + i)) * (tkr P m g (P 5 (4 * (k / pt P) + i)) ((k % pt P / P 0 1) - (P 7 (4 * (k / pt P) + i))) ((k % pt P % P 0 1) - (P 8 (4 * (k / pt P) + i)))))))), some (.int (zI (i + 1))), none]) [true, true, true, true, true, true, true, true, true, true, false] rfl ?_
      refine ih_48 _ (by omega) (i + 1) (sum + ((P 6 (4 * (k / pt P) + i)) * (tkr P m g (P 5 (4 * (k / pt P) + i)) ((k % pt P / P 0 1) - (P 7 (4 * (k / pt P) + i))) ((k % pt P % P 0 1) - (P 8 (4 * (k / pt P) + i)))))) rfl ?_ ?_
      · omega
      · rw [gsm_s P m g k hi.1, hsm]
  have seg_48 : ∀ (i : Int) (sum : Int), (0 ≤ i ∧ i ≤ P 4 (k / pt P)) → (sum = gsm P m g k i) → V K sX4_doStep 0 0 (fm (cO en c κ)) [some (.ref (c (18 + 6 * Int.toNat m))), some (.ref (c 1)), some (.ref (c 2)), some (.int (zI k)), some (.int (zI (k / pt P))), some (.int (zI (k % pt P / P 0 1))), some (.int (zI (k % pt P % P 0 1))), some (.ref (c (33 + 8 * Int.toNat (k / pt P)))), some (.int (zI sum)), some (.int (zI i)), none] [] 48 := fun i sum hi hsm => loop_48 _ i sum rfl hi hsm
  refine V_aload_n dX4_doStep_0 rfl ?_
  refine VO_getN (C0 := RX9) (T := TX9) (N := 10) (ci := 8) (fs := wkF c κ) 2 0 iwX9 (by decide) hK wn98 rfl (at_wk) rfl dX4_doStep_1 ?_
  refine V_iload_n dX4_doStep_4 rfl ?_
  refine VO_iald 3 at_wk_number ⟨by omega, by omega⟩ (by decide) dX4_doStep_5 ?_
  refine V_eqT (y := zI (k / pt P)) (congrArg zI (hA.2.1 k hk.1 hk.2).1.1) ?_
  refine V_istore (L' := [some (.ref (c (18 + 6 * Int.toNat m))), some (.ref (c 1)), some (.ref (c 2)), some (.int (zI k)), some (.int (zI (k / pt P))), none, none, none, none, none, none]) dX4_doStep_6 (by decide) rfl ?_
  refine V_aload_n dX4_doStep_8 rfl ?_
  refine VO_getN (C0 := RX9) (T := TX9) (N := 10) (ci := 8) (fs := wkF c κ) 2 1 iwX9 (by decide) hK wn101 rfl (at_wk) rfl dX4_doStep_9 ?_
  refine V_iload_n dX4_doStep_12 rfl ?_
  refine VO_iald 4 at_wk_row ⟨by omega, by omega⟩ (by decide) dX4_doStep_13 ?_
  refine V_eqT (y := zI (k % pt P / P 0 1)) (congrArg zI (hA.2.1 k hk.1 hk.2).1.2.1) ?_
  refine V_istore (L' := [some (.ref (c (18 + 6 * Int.toNat m))), some (.ref (c 1)), some (.ref (c 2)), some (.int (zI k)), some (.int (zI (k / pt P))), some (.int (zI (k % pt P / P 0 1))), none, none, none, none, none]) dX4_doStep_14 (by decide) rfl ?_
  refine V_aload_n dX4_doStep_16 rfl ?_
  refine VO_getN (C0 := RX9) (T := TX9) (N := 10) (ci := 8) (fs := wkF c κ) 2 2 iwX9 (by decide) hK wn104 rfl (at_wk) rfl dX4_doStep_17 ?_
  refine V_iload_n dX4_doStep_20 rfl ?_
  refine VO_iald 5 at_wk_column ⟨by omega, by omega⟩ (by decide) dX4_doStep_21 ?_
  refine V_eqT (y := zI (k % pt P % P 0 1)) (congrArg zI (hA.2.1 k hk.1 hk.2).1.2.2) ?_
  refine V_istore (L' := [some (.ref (c (18 + 6 * Int.toNat m))), some (.ref (c 1)), some (.ref (c 2)), some (.int (zI k)), some (.int (zI (k / pt P))), some (.int (zI (k % pt P / P 0 1))), some (.int (zI (k % pt P % P 0 1))), none, none, none, none]) dX4_doStep_22 (by decide) rfl ?_
  refine V_aload_n dX4_doStep_24 rfl ?_
  refine VO_getN (C0 := RX5) (T := TX5) (N := 4) (ci := 4) (fs := prF c κ) 1 0 iwX5 (by decide) hK wn71 rfl (at_pr) rfl dX4_doStep_25 ?_
  show V K sX4_doStep 0 0 (fm (cO en c κ)) [some (.ref (c (18 + 6 * Int.toNat m))), some (.ref (c 1)), some (.ref (c 2)), some (.int (zI k)), some (.int (zI (k / pt P))), some (.int (zI (k % pt P / P 0 1))), some (.int (zI (k % pt P % P 0 1))), none, none, none, none] [.ref (c (35 + 8 * Int.toNat 4))] 28
  refine V_iload dX4_doStep_28 rfl ?_
  refine VO_callVF (As := [.int (zI (k / pt P))]) (b := c (35 + 8 * Int.toNat 4)) (i := 35 + 8 * Int.toNat 4) (ci := 0) (fs := alF en c κ 4) (T := TJx4a65c) (N := 3) (at_al (CI.w4 _)) rfl hK (k_get4 en c κ (k / pt P) P ⟨hM, hC, by first | assumption | omega | exact ⟨by omega, by omega⟩ | exact ⟨⟨by omega, by omega⟩, by omega, by omega⟩ | exact ⟨⟨by omega, by omega⟩, ⟨by omega, by omega⟩⟩ | exact ⟨⟨by omega, by omega⟩, ⟨by omega, by omega⟩, by omega, by omega⟩⟩) mokJx4a65c_get_915e3 w483 w274 w275 ⟨Nat.le_of_ble_eq_true rfl, Nat.le_of_ble_eq_true rfl⟩ rfl (Nat.le_of_ble_eq_true rfl) ⟨Nat.le_of_ble_eq_true rfl, Nat.le_of_ble_eq_true rfl⟩ dX4_doStep_30 (fun v w p_6 => ?_)
  obtain ⟨rfl, rfl⟩ := p_6
  show V K sX4_doStep 0 0 (fm (cO en c κ)) [some (.ref (c (18 + 6 * Int.toNat m))), some (.ref (c 1)), some (.ref (c 2)), some (.int (zI k)), some (.int (zI (k / pt P))), some (.int (zI (k % pt P / P 0 1))), some (.int (zI (k % pt P % P 0 1))), none, none, none, none] [.ref (c (33 + 8 * Int.toNat (k / pt P)))] 33
  refine VO_castS (33 + 8 * Int.toNat (k / pt P)) (at_sm ((hC).sm hM (by omega))) rfl w484 dX4_doStep_33 ?_
  refine V_astore (L' := [some (.ref (c (18 + 6 * Int.toNat m))), some (.ref (c 1)), some (.ref (c 2)), some (.int (zI k)), some (.int (zI (k / pt P))), some (.int (zI (k % pt P / P 0 1))), some (.int (zI (k % pt P % P 0 1))), some (.ref (c (33 + 8 * Int.toNat (k / pt P)))), none, none, none]) dX4_doStep_36 (by decide) rfl ?_
  refine V_aload dX4_doStep_38 rfl ?_
  refine VO_getN (C0 := RX7) (T := TX7) (N := 5) (ci := 6) (fs := smF c κ (k / pt P)) (33 + 8 * Int.toNat (k / pt P)) 0 iwX7 (by decide) hK wn614 rfl (at_sm ((hC).sm hM (by omega))) rfl dX4_doStep_40 ?_
  refine V_eqT (y := zI (P 3 (k / pt P))) (congrArg zI (congrFun ((hC).1 3 (by decide) (by decide)) _)) ?_
  refine V_istore (L' := [some (.ref (c (18 + 6 * Int.toNat m))), some (.ref (c 1)), some (.ref (c 2)), some (.int (zI k)), some (.int (zI (k / pt P))), some (.int (zI (k % pt P / P 0 1))), some (.int (zI (k % pt P % P 0 1))), some (.ref (c (33 + 8 * Int.toNat (k / pt P)))), some (.int (zI (P 3 (k / pt P)))), none, none]) dX4_doStep_43 (by decide) rfl ?_
  refine V_iconst dX4_doStep_45 ?_
  refine V_istore (L' := [some (.ref (c (18 + 6 * Int.toNat m))), some (.ref (c 1)), some (.ref (c 2)), some (.int (zI k)), some (.int (zI (k / pt P))), some (.int (zI (k % pt P / P 0 1))), some (.int (zI (k % pt P % P 0 1))), some (.ref (c (33 + 8 * Int.toNat (k / pt P)))), some (.int (zI (P 3 (k / pt P)))), some (.int (zI 0)), none]) dX4_doStep_46 (by decide) rfl ?_
  refine seg_48 0 (P 3 (k / pt P)) ?_ ?_
  · omega
  · unfold gsm; rw [smv_0]; omega
set_option maxRecDepth 100000 in
set_option maxHeartbeats 4000000 in
theorem k_w4_empty (en : Nat → Nat) (c : Nat → Nat) (κ : St) (m : Int) (P : St) (hp : MI P ∧ CI P κ ∧ 0 ≤ m ∧ m ≤ 1) : MC (EN en) yX4_empty sX4_empty [.ref (c (18 + 6 * Int.toNat m))] (fm (cO en c κ)) (fun v w => ∃ κ2 : St, v = none ∧ w = fm (cO en c κ2) ∧ (CI P κ2) ∧ (frN m κ κ2) ∧ (KV m (fun _ _ => 0) κ2)) := by
  refine MC.of (EN.stb en) [some (.ref (c (18 + 6 * Int.toNat m))), none] 1 rfl rfl rfl (by simp [Value.category]) (Nat.le_of_ble_eq_true rfl) (fun K hK hR => ?_)
  obtain ⟨hM, hC, hp⟩ := hp
  have hN4 := hM.2.2.1
  have hm := hp
  obtain ⟨κ0, hκ0⟩ : ∃ κ0 : St, κ0 = κ := ⟨κ, rfl⟩
  have hF : frN m κ0 κ := by rw [hκ0]; exact frN.rf m _
  have loop_2 : ∀ (n0 : Nat) (κ : St) (k : Int), (4 - k).toNat = n0 → (CI P κ) → (0 ≤ k ∧ k ≤ 4) → (frN m κ0 κ) → (∀ s q, 0 ≤ s → s < k → 0 ≤ q → q < (kL m : Int) → κ (70 + 4 * m.toNat + s.toNat) q = 0) → V K sX4_empty 0 0 (fm (cO en c κ)) [some (.ref (c (18 + 6 * Int.toNat m))), some (.int (zI k))] [] 2 := by
    intro n0
    induction n0 using Nat.strongRecOn with
    | _ n0 ih_2 =>
    intro κ k hm_2 hC hk hF hZ
    refine V_iload_n dX4_empty_2 rfl ?_
    refine V_aload_n dX4_empty_3 rfl ?_
    refine VO_getf (C0 := RX4) (T := TX4) (N := 2) (ci := 3) (fs := mcF c m) (18 + 6 * Int.toNat m) 1 iwX4 (by decide) w204 (Or.inl rfl) rfl (at_mc (hm)) rfl dX4_empty_4 ?_
    refine VO_alen (19 + 6 * Int.toNat m) (at_ka (hm)) (fun _ => rfl) dX4_empty_7 ?_
    show V K sX4_empty 0 0 (fm (cO en c κ)) [some (.ref (c (18 + 6 * Int.toNat m))), some (.int (zI k))] [.int (zI 4), .int (zI k)] 8
    refine V_icmp_ge (tgt := 27) dX4_empty_8 (by decide) ⟨⟨by omega, by omega⟩, ⟨by omega, by omega⟩⟩ (fun c_1 => ?_) (fun c_1 => ?_)
    · refine V_vret hR rfl (Nat.le_of_ble_eq_true rfl) (Nat.le_of_ble_eq_true rfl) dX4_empty_27 ?_
      exact ⟨κ, rfl, rfl, hC, by rw [← hκ0]; exact hF, fun s q a b d e => hZ s q a (by omega) d e⟩
    · refine V_aload_n dX4_empty_11 rfl ?_
      refine VO_getf (C0 := RX4) (T := TX4) (N := 2) (ci := 3) (fs := mcF c m) (18 + 6 * Int.toNat m) 1 iwX4 (by decide) w204 (Or.inl rfl) rfl (at_mc (hm)) rfl dX4_empty_12 ?_
      refine V_iload_n dX4_empty_15 rfl ?_
      refine VO_aaldA (19 + 6 * Int.toNat m) (at_ka (hm)) ⟨by omega, by omega⟩ (by decide) (kA_at ⟨by omega, by omega⟩) dX4_empty_16 ?_
      refine V_iconst dX4_empty_17 ?_
      refine VO_callSB (As := [.ref (c (20 + 6 * Int.toNat m + Int.toNat k)), .int (zI 0)]) (i := (20 + 6 * Int.toNat m + Int.toNat k)) (at_kr (by first | assumption | exact ⟨⟨by omega, by omega⟩, Or.inl rfl⟩ | exact ⟨⟨by omega, by omega⟩, Or.inr (by omega)⟩ | exact ⟨⟨by omega, by omega⟩, by omega⟩ | exact ⟨⟨by omega, by omega⟩, ⟨by omega, by omega⟩, by omega, by omega⟩ | exact ⟨by omega, by omega⟩)) hK (k_fill en (c (20 + 6 * Int.toNat m + Int.toNat k)) (kL m) (κ (70 + 4 * Int.toNat m + Int.toNat k)) 0 (kL_b _)) mokJ7_fill_53178 w478 w334 ⟨Nat.le_of_ble_eq_true rfl, Nat.le_of_ble_eq_true rfl⟩ rfl (Nat.le_of_ble_eq_true rfl) ⟨Nat.le_of_ble_eq_true rfl, Nat.le_of_ble_eq_true rfl⟩ dX4_empty_18 (fun v w p_2 => ?_)
      obtain ⟨rfl, rfl⟩ := p_2
      refine ⟨_, rfl, ?_⟩
      rw [stw_kr _ (by first | assumption | exact ⟨⟨by omega, by omega⟩, Or.inl rfl⟩ | exact ⟨⟨by omega, by omega⟩, Or.inr (by omega)⟩ | exact ⟨⟨by omega, by omega⟩, by omega⟩ | exact ⟨⟨by omega, by omega⟩, ⟨by omega, by omega⟩, by omega, by omega⟩ | exact ⟨by omega, by omega⟩)]
      show V K sX4_empty 0 0 (fm (cO en c (upW κ (70 + 4 * Int.toNat m + Int.toNat k) (fillF (kL m) (κ (70 + 4 * Int.toNat m + Int.toNat k)) 0)))) [some (.ref (c (18 + 6 * Int.toNat m))), some (.int (zI k))] [] 21
      refine V_iinc (L' := [some (.ref (c (18 + 6 * Int.toNat m))), some (.int (zI (k + 1)))]) dX4_empty_21 (by decide) rfl rfl ?_
      refine V_goto (tgt := 2) dX4_empty_24 (by decide) ?_
      refine ih_2 _ (by omega) (upW κ (70 + 4 * Int.toNat m + Int.toNat k) (fillF (kL m) (κ (70 + 4 * Int.toNat m + Int.toNat k)) 0)) (k + 1) rfl ?_ ?_ ?_ ?_
      · exact ((hC).upW (by first | decide | omega))
      · omega
      · exact hF.updW (by omega)
      · exact fun s q a b d e => by
          by_cases es : s = k
          · rw [es, upW_eq]; exact if_pos ⟨d, e⟩
          · rw [upW_ne (by omega)]; exact hZ s q a (by omega) d e
  have seg_2 : ∀ (κ : St) (k : Int), (CI P κ) → (0 ≤ k ∧ k ≤ 4) → (frN m κ0 κ) → (∀ s q, 0 ≤ s → s < k → 0 ≤ q → q < (kL m : Int) → κ (70 + 4 * m.toNat + s.toNat) q = 0) → V K sX4_empty 0 0 (fm (cO en c κ)) [some (.ref (c (18 + 6 * Int.toNat m))), some (.int (zI k))] [] 2 := fun κ k hC hk hF hZ => loop_2 _ κ k rfl hC hk hF hZ
  refine V_iconst dX4_empty_0 ?_
  refine V_istore_n (L' := [some (.ref (c (18 + 6 * Int.toNat m))), some (.int (zI 0))]) dX4_empty_1 (by decide) rfl ?_
  refine seg_2 κ 0 ?_ ?_ ?_ ?_
  · exact hC
  · omega
  · exact hF
  · exact fun s q a b => absurd b (by omega)

set_option maxRecDepth 100000 in
set_option maxHeartbeats 4000000 in
theorem c_works {E : EV} (hE : Stb E) (a : Nat → Nat) (σ : St) (P : St) (hp : MI P ∧ PR P σ) : MC E yX11_works sX11_works [.ref (a 0)] (mW a σ) (fun v w => ∃ σ2 : St, v = some (.int (zI (fws P (P 0 11) (P 0 12)))) ∧ w = mW a σ2 ∧ (fr [16, 17, 18, 20, 21, 22] σ σ2) ∧ (∀ k, 0 ≤ k → k < al P → σ2 20 (cid P k) = vof P (P 0 11) (P 0 12) k) ∧ (∀ k, 0 ≤ k → k < al P → σ2 22 (cid P k) = cof P (P 0 11) (P 0 12) k)) := by
  refine MC.of hE [some (.ref (a 0)), none, none, none, none, none, none, none, none, none] 9 rfl rfl rfl (by simp [Value.category]) (Nat.le_of_ble_eq_true rfl) (fun K hK hR => ?_)
  obtain ⟨hM, hP⟩ := hp
  have e0 := hP 0 (by decide) (by decide)
  have f0 : ∀ i, σ 0 i = P 0 i := fun i => by rw [e0]
  have mR := hM.1
  have mC := hM.2.1
  have mN := hM.2.2.1
  have mp := hM.pts
  have ma := hM.als
  have gR := f0 0
  have gC := f0 1
  have gN := f0 2
  have loop_52 : ∀ (n0 : Nat) (t : Int) (wr : Int) (σ1 : St), (al P - t).toNat = n0 → (0 ≤ t ∧ t ≤ al P) → (fr [16, 17, 18, 20, 21, 22] σ σ1) → (Dealt P (P 0 11) (P 0 12) σ1) → (∀ k, 0 ≤ k → k < al P → σ1 20 (cid P k) = pvt P (P 0 11) (P 0 12) t k) → (∀ s q, 0 ≤ s → s < 4 → 0 ≤ q → q < 704 → σ1 21 (704 * s + q) = kvt P (P 0 11) (P 0 12) t s q) → (∀ k, 0 ≤ k → k < al P → bt P (P 0 11) (P 0 12) k < t → σ1 22 (cid P k) = cof P (P 0 11) (P 0 12) k) → (IsFw P (P 0 11) (P 0 12) t wr) → (-1 ≤ wr ∧ wr ≤ 256) → V K sX11_works 0 0 (mW a σ1) [some (.ref (a 0)), some (.int (zI wr)), some (.int (zI t)), none, none, none, none, none, none, none] [] 52 := by
    intro n0
    induction n0 using Nat.strongRecOn with
    | _ n0 ih_52 =>
    intro t wr σ1 hm_52 ht hf hD hv hk hc hw hwb
    have hP1 := hP.fr hf (by decide)
    have g3 : ∀ i, σ1 3 i = P 3 i := fun i => by rw [hP1 3 (by decide) (by decide)]
    have g4 : ∀ i, σ1 4 i = P 4 i := fun i => by rw [hP1 4 (by decide) (by decide)]
    have g5 : ∀ i, σ1 5 i = P 5 i := fun i => by rw [hP1 5 (by decide) (by decide)]
    have g6 : ∀ i, σ1 6 i = P 6 i := fun i => by rw [hP1 6 (by decide) (by decide)]
    have g7 : ∀ i, σ1 7 i = P 7 i := fun i => by rw [hP1 7 (by decide) (by decide)]
    have g8 : ∀ i, σ1 8 i = P 8 i := fun i => by rw [hP1 8 (by decide) (by decide)]
    have loop_97 : ∀ (n0 : Nat) (j : Int), (P 4 ((ac P (P 0 11) (P 0 12) t) / pt P) - j).toNat = n0 → (t < al P) → (0 ≤ j ∧ j ≤ P 4 ((ac P (P 0 11) (P 0 12) t) / pt P)) → V K sX11_works 0 0 (mW a σ1) [some (.ref (a 0)), some (.int (zI wr)), some (.int (zI t)), some (.int (zI (cid P (ac P (P 0 11) (P 0 12) t)))), some (.int (zI ((ac P (P 0 11) (P 0 12) t) / pt P))), some (.int (zI (psm P (pvt P (P 0 11) (P 0 12) t) (ac P (P 0 11) (P 0 12) t) j))), some (.int (zI (csm P (kvt P (P 0 11) (P 0 12) t) (ac P (P 0 11) (P 0 12) t) j))), some (.int (zI (4 * ((ac P (P 0 11) (P 0 12) t) / pt P) + j))), none, none] [] 97 := by
      intro n0
      induction n0 using Nat.strongRecOn with
      | _ n0 ih_97 =>
      intro j hm_97 htn hj
      have ka := hD.at ht.1 (show t < al P by omega)
      have kc := ac_spec (bw := P 0 11) (cw := P 0 12) ht.1 (show t < al P by omega)
      have kd := cid_b hM kc.1 kc.2.1
      have ke := cell_st hM kc.1 kc.2.1
      have q4 := (hM.2.2.2.2.2.1 ((ac P (P 0 11) (P 0 12) t) / pt P) (by omega) (by omega)).2.1
      have q5 := g4 ((ac P (P 0 11) (P 0 12) t) / pt P)
      have kps := psm_b hM (pvt_b P (P 0 11) (P 0 12) t ht.1) kc.1 kc.2.1 hj.1 hj.2
      have kcs := csm_b hM (kvt_b P (P 0 11) (P 0 12) t ht.1) kc.1 kc.2.1 hj.1 hj.2
      have kpl := plc_b hM ke.1 (show (ac P (P 0 11) (P 0 12) t) / pt P < 4 by omega) ke.2.2.1 ke.2.2.2.1
      refine V_iload dX11_works_97 rfl ?_
      refine V_iconst dX11_works_99 ?_
      refine V_iload dX11_works_100 rfl ?_
      refine V_imul dX11_works_102 ?_
      refine V_aload_n dX11_works_103 rfl ?_
      refine mg_reads rfl dX11_works_104 ?_
      refine V_iload dX11_works_107 rfl ?_
      refine ml_reads ⟨by omega, by omega⟩ dX11_works_109 ?_
      refine V_iadd dX11_works_110 ?_
      refine V_icmp_ge (tgt := 250) dX11_works_111 (by decide) ⟨⟨by omega, by omega⟩, ⟨by omega, by omega⟩⟩ (fun c_1 => ?_) (fun c_1 => ?_)
      · have ej : j = P 4 ((ac P (P 0 11) (P 0 12) t) / pt P) := by omega
        refine V_aload_n dX11_works_250 rfl ?_
        refine mg_value rfl dX11_works_251 ?_
        refine V_iload_n dX11_works_254 rfl ?_
        refine V_iload dX11_works_255 rfl ?_
        refine V_sipush dX11_works_257 (by decide) ?_
        refine V_iremN dX11_works_260 ⟨⟨by omega, by omega⟩, ⟨by omega, by omega⟩, by omega, by omega⟩ ?_
        refine V_eqT (y := zI (pvl P (pvt P (P 0 11) (P 0 12) t) (ac P (P 0 11) (P 0 12) t))) (by rw [ej]; rfl) ?_
        refine ms_value ⟨by omega, by omega⟩ dX11_works_261 ?_
        refine V_aload_n dX11_works_262 rfl ?_
        refine mg_written rfl dX11_works_263 ?_
        refine V_iload_n dX11_works_266 rfl ?_
        refine V_iload dX11_works_267 rfl ?_
        refine V_sipush dX11_works_269 (by decide) ?_
        refine V_iremN dX11_works_272 ⟨⟨by omega, by omega⟩, ⟨by omega, by omega⟩, by omega, by omega⟩ ?_
        refine V_eqT (y := zI (cvl P (kvt P (P 0 11) (P 0 12) t) (ac P (P 0 11) (P 0 12) t))) (by rw [ej]; rfl) ?_
        refine ms_written ⟨by omega, by omega⟩ dX11_works_273 ?_
        refine V_aload_n dX11_works_274 rfl ?_
        refine mg_kept rfl dX11_works_275 ?_
        refine V_sipush dX11_works_278 (by decide) ?_
        refine V_iload dX11_works_281 rfl ?_
        refine V_imul dX11_works_283 ?_
        refine V_aload_n dX11_works_284 rfl ?_
        refine V_iload_n dX11_works_285 rfl ?_
        refine V_callVF (As := [.int (zI (cid P (ac P (P 0 11) (P 0 12) t)))]) (b := a 0) (hb := (show (mW a (up (up σ1 20 (cid P (ac P (P 0 11) (P 0 12) t)) (pvl P (pvt P (P 0 11) (P 0 12) t) (ac P (P 0 11) (P 0 12) t))) 22 (cid P (ac P (P 0 11) (P 0 12) t)) (cvl P (kvt P (P 0 11) (P 0 12) t) (ac P (P 0 11) (P 0 12) t))))[0]? = some (a 0, .inr (10, mF a (up (up σ1 20 (cid P (ac P (P 0 11) (P 0 12) t)) (pvl P (pvt P (P 0 11) (P 0 12) t) (ac P (P 0 11) (P 0 12) t))) 22 (cid P (ac P (P 0 11) (P 0 12) t)) (cvl P (kvt P (P 0 11) (P 0 12) t) (ac P (P 0 11) (P 0 12) t))))) from rfl)) (hc := (show vwCl[10]? = some (RX11, TX11, 30) from rfl)) hK (c_place hE a (up (up σ1 20 (cid P (ac P (P 0 11) (P 0 12) t)) (pvl P (pvt P (P 0 11) (P 0 12) t) (ac P (P 0 11) (P 0 12) t))) 22 (cid P (ac P (P 0 11) (P 0 12) t)) (cvl P (kvt P (P 0 11) (P 0 12) t) (ac P (P 0 11) (P 0 12) t))) (cid P (ac P (P 0 11) (P 0 12) t)) P (ac P (P 0 11) (P 0 12) t) ⟨hM, (((((hP.fr hf (by decide))).up (by decide))).up (by decide)), ⟨kc.1, kc.2.1⟩, rfl⟩) mokX11_place w1410 w1412 wps3_8 ⟨Nat.le_of_ble_eq_true rfl, Nat.le_of_ble_eq_true rfl⟩ rfl (Nat.le_of_ble_eq_true rfl) ⟨Nat.le_refl _, Nat.le_refl _⟩ dX11_works_286 (fun v w p_2 => ?_)
        obtain ⟨rfl, rfl⟩ := p_2
        show V K sX11_works 0 0 (mW a (up (up σ1 20 (cid P (ac P (P 0 11) (P 0 12) t)) (pvl P (pvt P (P 0 11) (P 0 12) t) (ac P (P 0 11) (P 0 12) t))) 22 (cid P (ac P (P 0 11) (P 0 12) t)) (cvl P (kvt P (P 0 11) (P 0 12) t) (ac P (P 0 11) (P 0 12) t)))) _ [.int (zI (plc P ((ac P (P 0 11) (P 0 12) t) / pt P) ((ac P (P 0 11) (P 0 12) t) % pt P))), .int (zI (704 * ((ac P (P 0 11) (P 0 12) t) / pt P))), .ref (a 21)] 289
        refine V_iadd dX11_works_289 ?_
        refine V_aload_n dX11_works_290 rfl ?_
        refine mg_written rfl dX11_works_291 ?_
        refine V_iload_n dX11_works_294 rfl ?_
        refine ml_written ⟨by omega, by omega⟩ dX11_works_295 ?_
        refine V_eqT (y := zI (cvl P (kvt P (P 0 11) (P 0 12) t) (ac P (P 0 11) (P 0 12) t))) (by show zI (fup _ _ _ _) = _; rw [fup_eq]) ?_
        refine ms_kept ⟨by omega, by omega⟩ dX11_works_296 ?_
        refine V_iload_n dX11_works_297 rfl ?_
        refine V_if_ge (tgt := 320) dX11_works_298 (by decide) ⟨by omega, by omega⟩ (fun c_3 => ?_) (fun c_3 => ?_)
        · refine V_iload_n dX11_works_320 rfl ?_
          refine V_istore_n (L' := [some (.ref (a 0)), some (.int (zI wr)), some (.int (zI t)), some (.int (zI (cid P (ac P (P 0 11) (P 0 12) t)))), some (.int (zI ((ac P (P 0 11) (P 0 12) t) / pt P))), some (.int (zI (psm P (pvt P (P 0 11) (P 0 12) t) (ac P (P 0 11) (P 0 12) t) j))), some (.int (zI (csm P (kvt P (P 0 11) (P 0 12) t) (ac P (P 0 11) (P 0 12) t) j))), some (.int (zI (4 * ((ac P (P 0 11) (P 0 12) t) / pt P) + j))), none, none]) dX11_works_321 (by decide) rfl ?_
          refine V_iinc (L' := [some (.ref (a 0)), some (.int (zI wr)), some (.int (zI (t + 1))), some (.int (zI (cid P (ac P (P 0 11) (P 0 12) t)))), some (.int (zI ((ac P (P 0 11) (P 0 12) t) / pt P))), some (.int (zI (psm P (pvt P (P 0 11) (P 0 12) t) (ac P (P 0 11) (P 0 12) t) j))), some (.int (zI (csm P (kvt P (P 0 11) (P 0 12) t) (ac P (P 0 11) (P 0 12) t) j))), some (.int (zI (4 * ((ac P (P 0 11) (P 0 12) t) / pt P) + j))), none, none]) dX11_works_322 (by decide) rfl rfl ?_
          refine V_goto (tgt := 52) dX11_works_325 (by decide) ?_
          refine V_mask (L' := [some (.ref (a 0)), some (.int (zI wr)), some (.int (zI (t + 1))), none, none, none, none, none, none, none]) [true, true, true, false, false, false, false, false, false, false] rfl ?_
          refine ih_52 _ (by omega) (t + 1) wr (up (up (up σ1 20 (cid P (ac P (P 0 11) (P 0 12) t)) (pvl P (pvt P (P 0 11) (P 0 12) t) (ac P (P 0 11) (P 0 12) t))) 22 (cid P (ac P (P 0 11) (P 0 12) t)) (cvl P (kvt P (P 0 11) (P 0 12) t) (ac P (P 0 11) (P 0 12) t))) 21 ((704 * ((ac P (P 0 11) (P 0 12) t) / pt P)) + (plc P ((ac P (P 0 11) (P 0 12) t) / pt P) ((ac P (P 0 11) (P 0 12) t) % pt P))) (cvl P (kvt P (P 0 11) (P 0 12) t) (ac P (P 0 11) (P 0 12) t))) rfl ?_ ?_ ?_ ?_ ?_ ?_ ?_ ?_
          · omega
          · exact ((hf.upd (by decide)).upd (by decide)).upd (by decide)
          · exact hD
          · intro k a b
            show fup (σ1 20) _ _ (cid P k) = _
            rw [pvt_s P _ _ ht.1]
            by_cases e : k = (ac P (P 0 11) (P 0 12) t)
            · rw [e, fup_eq, fup_eq]
            · rw [fup_ne e, fup_ne (fun z => e (cid_inj hM a b kc.1 kc.2.1 z))]; exact hv k a b
          · intro s q s0 s1 q0 q1
            show fup (σ1 21) _ _ (704 * s + q) = _
            rw [kvt_s P _ _ ht.1]
            unfold fup2
            by_cases e : s = (ac P (P 0 11) (P 0 12) t) / pt P ∧ q = plc P ((ac P (P 0 11) (P 0 12) t) / pt P) ((ac P (P 0 11) (P 0 12) t) % pt P)
            · rw [if_pos e, e.1, e.2, fup_eq]
            · rw [if_neg e, fup_ne (by omega)]; exact hk s q s0 s1 q0 q1
          · intro k a b h
            show fup (σ1 22) _ _ (cid P k) = _
            by_cases e : k = (ac P (P 0 11) (P 0 12) t)
            · rw [e, fup_eq, cof_at ht.1 htn]
            · rw [fup_ne (fun z => e (cid_inj hM a b kc.1 kc.2.1 z))]
              refine hc k a b ?_
              have : bt P (P 0 11) (P 0 12) k ≠ t := fun z => e (by rw [← z]; exact (ac_bt a b).symm)
              omega
          · exact hw.same ht.1 (Or.inl c_3)
          · omega
        · refine V_aload_n dX11_works_301 rfl ?_
          refine mg_value rfl dX11_works_302 ?_
          refine V_iload_n dX11_works_305 rfl ?_
          refine ml_value ⟨by omega, by omega⟩ dX11_works_306 ?_
          have vb := v_b (psm P (pvt P (P 0 11) (P 0 12) t) (ac P (P 0 11) (P 0 12) t) (P 4 ((ac P (P 0 11) (P 0 12) t) / pt P)))
          have vb2 := v_b (csm P (kvt P (P 0 11) (P 0 12) t) (ac P (P 0 11) (P 0 12) t) (P 4 ((ac P (P 0 11) (P 0 12) t) / pt P)))
          have vb3 : 0 ≤ pvl P (pvt P (P 0 11) (P 0 12) t) (ac P (P 0 11) (P 0 12) t) ∧ pvl P (pvt P (P 0 11) (P 0 12) t) (ac P (P 0 11) (P 0 12) t) ≤ 9972 := vb
          have vb4 : 0 ≤ cvl P (kvt P (P 0 11) (P 0 12) t) (ac P (P 0 11) (P 0 12) t) ∧ cvl P (kvt P (P 0 11) (P 0 12) t) (ac P (P 0 11) (P 0 12) t) ≤ 9972 := vb2
          refine V_eqT (y := zI (pvl P (pvt P (P 0 11) (P 0 12) t) (ac P (P 0 11) (P 0 12) t))) (by show zI (fup (σ1 20) _ _ _) = _; rw [fup_eq]) ?_
          refine V_aload_n dX11_works_307 rfl ?_
          refine mg_written rfl dX11_works_308 ?_
          refine V_iload_n dX11_works_311 rfl ?_
          refine ml_written ⟨by omega, by omega⟩ dX11_works_312 ?_
          refine V_eqT (y := zI (cvl P (kvt P (P 0 11) (P 0 12) t) (ac P (P 0 11) (P 0 12) t))) (by show zI (fup (σ1 22) _ _ _) = _; rw [fup_eq]) ?_
          refine V_icmp_eq (tgt := 320) dX11_works_313 (by decide) ⟨⟨by omega, by omega⟩, ⟨by omega, by omega⟩⟩ (fun c_4 => ?_) (fun c_4 => ?_)
          · refine V_iload_n dX11_works_320 rfl ?_
            refine V_istore_n (L' := [some (.ref (a 0)), some (.int (zI wr)), some (.int (zI t)), some (.int (zI (cid P (ac P (P 0 11) (P 0 12) t)))), some (.int (zI ((ac P (P 0 11) (P 0 12) t) / pt P))), some (.int (zI (psm P (pvt P (P 0 11) (P 0 12) t) (ac P (P 0 11) (P 0 12) t) j))), some (.int (zI (csm P (kvt P (P 0 11) (P 0 12) t) (ac P (P 0 11) (P 0 12) t) j))), some (.int (zI (4 * ((ac P (P 0 11) (P 0 12) t) / pt P) + j))), none, none]) dX11_works_321 (by decide) rfl ?_
            refine V_iinc (L' := [some (.ref (a 0)), some (.int (zI wr)), some (.int (zI (t + 1))), some (.int (zI (cid P (ac P (P 0 11) (P 0 12) t)))), some (.int (zI ((ac P (P 0 11) (P 0 12) t) / pt P))), some (.int (zI (psm P (pvt P (P 0 11) (P 0 12) t) (ac P (P 0 11) (P 0 12) t) j))), some (.int (zI (csm P (kvt P (P 0 11) (P 0 12) t) (ac P (P 0 11) (P 0 12) t) j))), some (.int (zI (4 * ((ac P (P 0 11) (P 0 12) t) / pt P) + j))), none, none]) dX11_works_322 (by decide) rfl rfl ?_
            refine V_goto (tgt := 52) dX11_works_325 (by decide) ?_
            refine V_mask (L' := [some (.ref (a 0)), some (.int (zI wr)), some (.int (zI (t + 1))), none, none, none, none, none, none, none]) [true, true, true, false, false, false, false, false, false, false] rfl ?_
            refine ih_52 _ (by omega) (t + 1) wr (up (up (up σ1 20 (cid P (ac P (P 0 11) (P 0 12) t)) (pvl P (pvt P (P 0 11) (P 0 12) t) (ac P (P 0 11) (P 0 12) t))) 22 (cid P (ac P (P 0 11) (P 0 12) t)) (cvl P (kvt P (P 0 11) (P 0 12) t) (ac P (P 0 11) (P 0 12) t))) 21 ((704 * ((ac P (P 0 11) (P 0 12) t) / pt P)) + (plc P ((ac P (P 0 11) (P 0 12) t) / pt P) ((ac P (P 0 11) (P 0 12) t) % pt P))) (cvl P (kvt P (P 0 11) (P 0 12) t) (ac P (P 0 11) (P 0 12) t))) rfl ?_ ?_ ?_ ?_ ?_ ?_ ?_ ?_
            · omega
            · exact ((hf.upd (by decide)).upd (by decide)).upd (by decide)
            · exact hD
            · intro k a b
              show fup (σ1 20) _ _ (cid P k) = _
              rw [pvt_s P _ _ ht.1]
              by_cases e : k = (ac P (P 0 11) (P 0 12) t)
              · rw [e, fup_eq, fup_eq]
              · rw [fup_ne e, fup_ne (fun z => e (cid_inj hM a b kc.1 kc.2.1 z))]; exact hv k a b
            · intro s q s0 s1 q0 q1
              show fup (σ1 21) _ _ (704 * s + q) = _
              rw [kvt_s P _ _ ht.1]
              unfold fup2
              by_cases e : s = (ac P (P 0 11) (P 0 12) t) / pt P ∧ q = plc P ((ac P (P 0 11) (P 0 12) t) / pt P) ((ac P (P 0 11) (P 0 12) t) % pt P)
              · rw [if_pos e, e.1, e.2, fup_eq]
              · rw [if_neg e, fup_ne (by omega)]; exact hk s q s0 s1 q0 q1
            · intro k a b h
              show fup (σ1 22) _ _ (cid P k) = _
              by_cases e : k = (ac P (P 0 11) (P 0 12) t)
              · rw [e, fup_eq, cof_at ht.1 htn]
              · rw [fup_ne (fun z => e (cid_inj hM a b kc.1 kc.2.1 z))]
                refine hc k a b ?_
                have : bt P (P 0 11) (P 0 12) k ≠ t := fun z => e (by rw [← z]; exact (ac_bt a b).symm)
                omega
            · exact hw.same ht.1 (Or.inr (by rw [vof_at ht.1 htn, cof_at ht.1 htn]; exact c_4))
            · omega
          · refine V_iload_n dX11_works_316 rfl ?_
            refine V_goto (tgt := 321) dX11_works_317 (by decide) ?_
            refine V_istore_n (L' := [some (.ref (a 0)), some (.int (zI t)), some (.int (zI t)), some (.int (zI (cid P (ac P (P 0 11) (P 0 12) t)))), some (.int (zI ((ac P (P 0 11) (P 0 12) t) / pt P))), some (.int (zI (psm P (pvt P (P 0 11) (P 0 12) t) (ac P (P 0 11) (P 0 12) t) j))), some (.int (zI (csm P (kvt P (P 0 11) (P 0 12) t) (ac P (P 0 11) (P 0 12) t) j))), some (.int (zI (4 * ((ac P (P 0 11) (P 0 12) t) / pt P) + j))), none, none]) dX11_works_321 (by decide) rfl ?_
            refine V_iinc (L' := [some (.ref (a 0)), some (.int (zI t)), some (.int (zI (t + 1))), some (.int (zI (cid P (ac P (P 0 11) (P 0 12) t)))), some (.int (zI ((ac P (P 0 11) (P 0 12) t) / pt P))), some (.int (zI (psm P (pvt P (P 0 11) (P 0 12) t) (ac P (P 0 11) (P 0 12) t) j))), some (.int (zI (csm P (kvt P (P 0 11) (P 0 12) t) (ac P (P 0 11) (P 0 12) t) j))), some (.int (zI (4 * ((ac P (P 0 11) (P 0 12) t) / pt P) + j))), none, none]) dX11_works_322 (by decide) rfl rfl ?_
            refine V_goto (tgt := 52) dX11_works_325 (by decide) ?_
            refine V_mask (L' := [some (.ref (a 0)), some (.int (zI t)), some (.int (zI (t + 1))), none, none, none, none, none, none, none]) [true, true, true, false, false, false, false, false, false, false] rfl ?_
            refine ih_52 _ (by omega) (t + 1) t (up (up (up σ1 20 (cid P (ac P (P 0 11) (P 0 12) t)) (pvl P (pvt P (P 0 11) (P 0 12) t) (ac P (P 0 11) (P 0 12) t))) 22 (cid P (ac P (P 0 11) (P 0 12) t)) (cvl P (kvt P (P 0 11) (P 0 12) t) (ac P (P 0 11) (P 0 12) t))) 21 ((704 * ((ac P (P 0 11) (P 0 12) t) / pt P)) + (plc P ((ac P (P 0 11) (P 0 12) t) / pt P) ((ac P (P 0 11) (P 0 12) t) % pt P))) (cvl P (kvt P (P 0 11) (P 0 12) t) (ac P (P 0 11) (P 0 12) t))) rfl ?_ ?_ ?_ ?_ ?_ ?_ ?_ ?_
            · omega
            · exact ((hf.upd (by decide)).upd (by decide)).upd (by decide)
            · exact hD
            · intro k a b
              show fup (σ1 20) _ _ (cid P k) = _
              rw [pvt_s P _ _ ht.1]
              by_cases e : k = (ac P (P 0 11) (P 0 12) t)
              · rw [e, fup_eq, fup_eq]
              · rw [fup_ne e, fup_ne (fun z => e (cid_inj hM a b kc.1 kc.2.1 z))]; exact hv k a b
            · intro s q s0 s1 q0 q1
              show fup (σ1 21) _ _ (704 * s + q) = _
              rw [kvt_s P _ _ ht.1]
              unfold fup2
              by_cases e : s = (ac P (P 0 11) (P 0 12) t) / pt P ∧ q = plc P ((ac P (P 0 11) (P 0 12) t) / pt P) ((ac P (P 0 11) (P 0 12) t) % pt P)
              · rw [if_pos e, e.1, e.2, fup_eq]
              · rw [if_neg e, fup_ne (by omega)]; exact hk s q s0 s1 q0 q1
            · intro k a b h
              show fup (σ1 22) _ _ (cid P k) = _
              by_cases e : k = (ac P (P 0 11) (P 0 12) t)
              · rw [e, fup_eq, cof_at ht.1 htn]
              · rw [fup_ne (fun z => e (cid_inj hM a b kc.1 kc.2.1 z))]
                refine hc k a b ?_
                have : bt P (P 0 11) (P 0 12) k ≠ t := fun z => e (by rw [← z]; exact (ac_bt a b).symm)
                omega
            · exact hw.new ht.1 c_3 (by rw [vof_at ht.1 htn, cof_at ht.1 htn]; exact c_4)
            · omega
      · have q6 := hM.2.2.2.2.2.2 ((ac P (P 0 11) (P 0 12) t) / pt P) j (by omega) (by omega) hj.1 (by omega)
        have kw := wt_cases hM ke.1 ke.2.1 ke.2.2.1 ke.2.2.2.1 q6.1
        have w0 : cid P (ac P (P 0 11) (P 0 12) t) = 64 * ((ac P (P 0 11) (P 0 12) t) / pt P) + (ac P (P 0 11) (P 0 12) t) % pt P := rfl
        rw [← w0] at kw
        have pr := place_rc hM ke.2.2.1 ke.2.2.2.1
        refine V_aload_n dX11_works_114 rfl ?_
        refine V_iload_n dX11_works_115 rfl ?_
        refine V_iload dX11_works_116 rfl ?_
        refine V_callVF (As := [.int (zI (cid P (ac P (P 0 11) (P 0 12) t))), .int (zI (4 * ((ac P (P 0 11) (P 0 12) t) / pt P) + j))]) (b := a 0) (hb := (show (mW a σ1)[0]? = some (a 0, .inr (10, mF a σ1)) from rfl)) (hc := (show vwCl[10]? = some (RX11, TX11, 30) from rfl)) hK (c_wanted hE a σ1 (cid P (ac P (P 0 11) (P 0 12) t)) (4 * ((ac P (P 0 11) (P 0 12) t) / pt P) + j) P ⟨hM, (hP.fr hf (by decide)), by refine ⟨⟨?_, ?_⟩, ⟨?_, ?_⟩, ⟨?_, ?_⟩, ⟨?_, ?_⟩, ⟨?_, ?_⟩⟩ <;> omega⟩) mokX11_wanted w1235 w1237 wps2_3 ⟨Nat.le_of_ble_eq_true rfl, Nat.le_of_ble_eq_true rfl⟩ rfl (Nat.le_of_ble_eq_true rfl) ⟨Nat.le_refl _, Nat.le_refl _⟩ dX11_works_118 (fun v w p_5 => ?_)
        obtain ⟨rfl, rfl⟩ := p_5
        show V K sX11_works 0 0 (mW a σ1) _ [.int (zI (wt P (cid P (ac P (P 0 11) (P 0 12) t)) (4 * ((ac P (P 0 11) (P 0 12) t) / pt P) + j)))] 121
        refine V_istore (L' := [some (.ref (a 0)), some (.int (zI wr)), some (.int (zI t)), some (.int (zI (cid P (ac P (P 0 11) (P 0 12) t)))), some (.int (zI ((ac P (P 0 11) (P 0 12) t) / pt P))), some (.int (zI (psm P (pvt P (P 0 11) (P 0 12) t) (ac P (P 0 11) (P 0 12) t) j))), some (.int (zI (csm P (kvt P (P 0 11) (P 0 12) t) (ac P (P 0 11) (P 0 12) t) j))), some (.int (zI (4 * ((ac P (P 0 11) (P 0 12) t) / pt P) + j))), some (.int (zI (wt P (cid P (ac P (P 0 11) (P 0 12) t)) (4 * ((ac P (P 0 11) (P 0 12) t) / pt P) + j)))), none]) dX11_works_121 (by decide) rfl ?_
        have w1 : -1 ≤ wt P (cid P (ac P (P 0 11) (P 0 12) t)) (4 * ((ac P (P 0 11) (P 0 12) t) / pt P) + j) ∧ wt P (cid P (ac P (P 0 11) (P 0 12) t)) (4 * ((ac P (P 0 11) (P 0 12) t) / pt P) + j) ≤ 255 := by rcases kw with w | w; exact (by omega); exact (by rw [w.2.1]; have := (cid_b hM w.2.2.1.1 w.2.2.1.2).1; omega)
        refine V_iload dX11_works_123 rfl ?_
        refine V_if_ge (tgt := 167) dX11_works_125 (by decide) ⟨by omega, by omega⟩ (fun c_6 => ?_) (fun c_6 => ?_)
        · have w2 : inP P ((ac P (P 0 11) (P 0 12) t) % pt P) (4 * ((ac P (P 0 11) (P 0 12) t) / pt P) + j) ∧ wt P (cid P (ac P (P 0 11) (P 0 12) t)) (4 * ((ac P (P 0 11) (P 0 12) t) / pt P) + j) = cid P (rdc P ((ac P (P 0 11) (P 0 12) t) % pt P) (4 * ((ac P (P 0 11) (P 0 12) t) / pt P) + j)) ∧ (0 ≤ rdc P ((ac P (P 0 11) (P 0 12) t) % pt P) (4 * ((ac P (P 0 11) (P 0 12) t) / pt P) + j) ∧ rdc P ((ac P (P 0 11) (P 0 12) t) % pt P) (4 * ((ac P (P 0 11) (P 0 12) t) / pt P) + j) < al P) ∧ rdc P ((ac P (P 0 11) (P 0 12) t) % pt P) (4 * ((ac P (P 0 11) (P 0 12) t) / pt P) + j) / pt P = P 5 (4 * ((ac P (P 0 11) (P 0 12) t) / pt P) + j) ∧ rdc P ((ac P (P 0 11) (P 0 12) t) % pt P) (4 * ((ac P (P 0 11) (P 0 12) t) / pt P) + j) % pt P = rdp P ((ac P (P 0 11) (P 0 12) t) % pt P) (4 * ((ac P (P 0 11) (P 0 12) t) / pt P) + j) ∧ wt P (cid P (ac P (P 0 11) (P 0 12) t)) (4 * ((ac P (P 0 11) (P 0 12) t) / pt P) + j) = 64 * P 5 (4 * ((ac P (P 0 11) (P 0 12) t) / pt P) + j) + rdp P ((ac P (P 0 11) (P 0 12) t) % pt P) (4 * ((ac P (P 0 11) (P 0 12) t) / pt P) + j) := by rcases kw with w | w; exact (by omega); exact w
          have w3 := rdp_b hM w2.1
          have w4 : 0 ≤ rdp P ((ac P (P 0 11) (P 0 12) t) % pt P) (4 * ((ac P (P 0 11) (P 0 12) t) / pt P) + j) ∧ rdp P ((ac P (P 0 11) (P 0 12) t) % pt P) (4 * ((ac P (P 0 11) (P 0 12) t) / pt P) + j) < pt P := ⟨w3.1, w3.2.1⟩
          have w5 := plc_b hM q6.1.1 (show P 5 (4 * ((ac P (P 0 11) (P 0 12) t) / pt P) + j) < 4 by omega) w4.1 w4.2
          refine V_iconst dX11_works_167 ?_
          refine V_istore (L' := [some (.ref (a 0)), some (.int (zI wr)), some (.int (zI t)), some (.int (zI (cid P (ac P (P 0 11) (P 0 12) t)))), some (.int (zI ((ac P (P 0 11) (P 0 12) t) / pt P))), some (.int (zI (psm P (pvt P (P 0 11) (P 0 12) t) (ac P (P 0 11) (P 0 12) t) j))), some (.int (zI (csm P (kvt P (P 0 11) (P 0 12) t) (ac P (P 0 11) (P 0 12) t) j))), some (.int (zI (4 * ((ac P (P 0 11) (P 0 12) t) / pt P) + j))), some (.int (zI (wt P (cid P (ac P (P 0 11) (P 0 12) t)) (4 * ((ac P (P 0 11) (P 0 12) t) / pt P) + j)))), some (.int (zI 0))]) dX11_works_168 (by decide) rfl ?_
          refine V_iload dX11_works_170 rfl ?_
          refine V_aload_n dX11_works_172 rfl ?_
          refine mg_factor rfl dX11_works_173 ?_
          refine V_iload dX11_works_176 rfl ?_
          refine ml_factor ⟨by omega, by omega⟩ dX11_works_178 ?_
          refine V_eqT (y := zI (P 6 (4 * ((ac P (P 0 11) (P 0 12) t) / pt P) + j))) (by rw [g6]) ?_
          refine V_iload dX11_works_179 rfl ?_
          refine V_if_ge (tgt := 189) dX11_works_181 (by decide) ⟨by omega, by omega⟩ (fun c_7 => ?_) (fun c_7 => ?_)
          · refine V_aload_n dX11_works_189 rfl ?_
            refine mg_value rfl dX11_works_190 ?_
            refine V_iload dX11_works_193 rfl ?_
            refine ml_value ⟨by omega, by omega⟩ dX11_works_195 ?_
            refine V_eqT (y := zI (pvt P (P 0 11) (P 0 12) t (rdc P ((ac P (P 0 11) (P 0 12) t) % pt P) (4 * ((ac P (P 0 11) (P 0 12) t) / pt P) + j)))) (by rw [w2.2.1, hv _ w2.2.2.1.1 w2.2.2.1.2]) ?_
            refine V_imul dX11_works_196 ?_
            refine V_iadd dX11_works_197 ?_
            refine V_istore (L' := [some (.ref (a 0)), some (.int (zI wr)), some (.int (zI t)), some (.int (zI (cid P (ac P (P 0 11) (P 0 12) t)))), some (.int (zI ((ac P (P 0 11) (P 0 12) t) / pt P))), some (.int (zI ((psm P (pvt P (P 0 11) (P 0 12) t) (ac P (P 0 11) (P 0 12) t) j) + ((P 6 (4 * ((ac P (P 0 11) (P 0 12) t) / pt P) + j)) * (pvt P (P 0 11) (P 0 12) t (rdc P ((ac P (P 0 11) (P 0 12) t) % pt P) (4 * ((ac P (P 0 11) (P 0 12) t) / pt P) + j))))))), some (.int (zI (csm P (kvt P (P 0 11) (P 0 12) t) (ac P (P 0 11) (P 0 12) t) j))), some (.int (zI (4 * ((ac P (P 0 11) (P 0 12) t) / pt P) + j))), some (.int (zI (wt P (cid P (ac P (P 0 11) (P 0 12) t)) (4 * ((ac P (P 0 11) (P 0 12) t) / pt P) + j)))), some (.int (zI 0))]) dX11_works_198 (by decide) rfl ?_
            refine V_iload dX11_works_200 rfl ?_
            refine V_aload_n dX11_works_202 rfl ?_
            refine mg_factor rfl dX11_works_203 ?_
            refine V_iload dX11_works_206 rfl ?_
            refine ml_factor ⟨by omega, by omega⟩ dX11_works_208 ?_
            refine V_eqT (y := zI (P 6 (4 * ((ac P (P 0 11) (P 0 12) t) / pt P) + j))) (by rw [g6]) ?_
            refine V_iload dX11_works_209 rfl ?_
            refine V_if_ge (tgt := 219) dX11_works_211 (by decide) ⟨by omega, by omega⟩ (fun c_8 => ?_) (fun c_8 => ?_)
            · refine V_aload_n dX11_works_219 rfl ?_
              refine mg_kept rfl dX11_works_220 ?_
              refine V_sipush dX11_works_223 (by decide) ?_
              refine V_iload dX11_works_226 rfl ?_
              refine V_bipush dX11_works_228 (by decide) ?_
              refine V_idiv dX11_works_230 ⟨⟨by omega, by omega⟩, ⟨by omega, by omega⟩, by omega, by omega⟩ ?_
              refine V_imul dX11_works_231 ?_
              refine V_aload_n dX11_works_232 rfl ?_
              refine V_iload dX11_works_233 rfl ?_
              refine V_callVF (As := [.int (zI (wt P (cid P (ac P (P 0 11) (P 0 12) t)) (4 * ((ac P (P 0 11) (P 0 12) t) / pt P) + j)))]) (b := a 0) (hb := (show (mW a σ1)[0]? = some (a 0, .inr (10, mF a σ1)) from rfl)) (hc := (show vwCl[10]? = some (RX11, TX11, 30) from rfl)) hK (c_place hE a σ1 (wt P (cid P (ac P (P 0 11) (P 0 12) t)) (4 * ((ac P (P 0 11) (P 0 12) t) / pt P) + j)) P (rdc P ((ac P (P 0 11) (P 0 12) t) % pt P) (4 * ((ac P (P 0 11) (P 0 12) t) / pt P) + j)) ⟨hM, (hP.fr hf (by decide)), w2.2.2.1, w2.2.1⟩) mokX11_place w1410 w1412 wps3_8 ⟨Nat.le_of_ble_eq_true rfl, Nat.le_of_ble_eq_true rfl⟩ rfl (Nat.le_of_ble_eq_true rfl) ⟨Nat.le_refl _, Nat.le_refl _⟩ dX11_works_235 (fun v w p_9 => ?_)
              obtain ⟨rfl, rfl⟩ := p_9
              show V K sX11_works 0 0 (mW a σ1) _ [.int (zI (plc P ((rdc P ((ac P (P 0 11) (P 0 12) t) % pt P) (4 * ((ac P (P 0 11) (P 0 12) t) / pt P) + j)) / pt P) ((rdc P ((ac P (P 0 11) (P 0 12) t) % pt P) (4 * ((ac P (P 0 11) (P 0 12) t) / pt P) + j)) % pt P))), .int (zI (704 * ((wt P (cid P (ac P (P 0 11) (P 0 12) t)) (4 * ((ac P (P 0 11) (P 0 12) t) / pt P) + j)) / 64))), .ref (a 21), .int (zI (P 6 (4 * ((ac P (P 0 11) (P 0 12) t) / pt P) + j))), .int (zI (csm P (kvt P (P 0 11) (P 0 12) t) (ac P (P 0 11) (P 0 12) t) j))] 238
              refine V_iadd dX11_works_238 ?_
              refine V_eqT (y := zI (704 * P 5 (4 * ((ac P (P 0 11) (P 0 12) t) / pt P) + j) + plc P (P 5 (4 * ((ac P (P 0 11) (P 0 12) t) / pt P) + j)) (rdp P ((ac P (P 0 11) (P 0 12) t) % pt P) (4 * ((ac P (P 0 11) (P 0 12) t) / pt P) + j)))) (by rw [w2.2.2.2.1, w2.2.2.2.2.1, show wt P (cid P (ac P (P 0 11) (P 0 12) t)) (4 * ((ac P (P 0 11) (P 0 12) t) / pt P) + j) / 64 = P 5 (4 * ((ac P (P 0 11) (P 0 12) t) / pt P) + j) by omega]) ?_
              refine ml_kept ⟨by omega, by omega⟩ dX11_works_239 ?_
              refine V_eqT (y := zI (kvt P (P 0 11) (P 0 12) t (P 5 (4 * ((ac P (P 0 11) (P 0 12) t) / pt P) + j)) (plc P (P 5 (4 * ((ac P (P 0 11) (P 0 12) t) / pt P) + j)) (rdp P ((ac P (P 0 11) (P 0 12) t) % pt P) (4 * ((ac P (P 0 11) (P 0 12) t) / pt P) + j))))) (by rw [hk _ _ q6.1.1 (by omega) w5.1 (by omega)]) ?_
              refine V_imul dX11_works_240 ?_
              refine V_iadd dX11_works_241 ?_
              refine V_istore (L' := [some (.ref (a 0)), some (.int (zI wr)), some (.int (zI t)), some (.int (zI (cid P (ac P (P 0 11) (P 0 12) t)))), some (.int (zI ((ac P (P 0 11) (P 0 12) t) / pt P))), some (.int (zI ((psm P (pvt P (P 0 11) (P 0 12) t) (ac P (P 0 11) (P 0 12) t) j) + ((P 6 (4 * ((ac P (P 0 11) (P 0 12) t) / pt P) + j)) * (pvt P (P 0 11) (P 0 12) t (rdc P ((ac P (P 0 11) (P 0 12) t) % pt P) (4 * ((ac P (P 0 11) (P 0 12) t) / pt P) + j))))))), some (.int (zI ((csm P (kvt P (P 0 11) (P 0 12) t) (ac P (P 0 11) (P 0 12) t) j) + ((P 6 (4 * ((ac P (P 0 11) (P 0 12) t) / pt P) + j)) * (kvt P (P 0 11) (P 0 12) t (P 5 (4 * ((ac P (P 0 11) (P 0 12) t) / pt P) + j)) (plc P (P 5 (4 * ((ac P (P 0 11) (P 0 12) t) / pt P) + j)) (rdp P ((ac P (P 0 11) (P 0 12) t) % pt P) (4 * ((ac P (P 0 11) (P 0 12) t) / pt P) + j)))))))), some (.int (zI (4 * ((ac P (P 0 11) (P 0 12) t) / pt P) + j))), some (.int (zI (wt P (cid P (ac P (P 0 11) (P 0 12) t)) (4 * ((ac P (P 0 11) (P 0 12) t) / pt P) + j)))), some (.int (zI 0))]) dX11_works_242 (by decide) rfl ?_
              refine V_iinc (L' := [some (.ref (a 0)), some (.int (zI wr)), some (.int (zI t)), some (.int (zI (cid P (ac P (P 0 11) (P 0 12) t)))), some (.int (zI ((ac P (P 0 11) (P 0 12) t) / pt P))), some (.int (zI ((psm P (pvt P (P 0 11) (P 0 12) t) (ac P (P 0 11) (P 0 12) t) j) + ((P 6 (4 * ((ac P (P 0 11) (P 0 12) t) / pt P) + j)) * (pvt P (P 0 11) (P 0 12) t (rdc P ((ac P (P 0 11) (P 0 12) t) % pt P) (4 * ((ac P (P 0 11) (P 0 12) t) / pt P) + j))))))), some (.int (zI ((csm P (kvt P (P 0 11) (P 0 12) t) (ac P (P 0 11) (P 0 12) t) j) + ((P 6 (4 * ((ac P (P 0 11) (P 0 12) t) / pt P) + j)) * (kvt P (P 0 11) (P 0 12) t (P 5 (4 * ((ac P (P 0 11) (P 0 12) t) / pt P) + j)) (plc P (P 5 (4 * ((ac P (P 0 11) (P 0 12) t) / pt P) + j)) (rdp P ((ac P (P 0 11) (P 0 12) t) % pt P) (4 * ((ac P (P 0 11) (P 0 12) t) / pt P) + j)))))))), some (.int (zI ((4 * ((ac P (P 0 11) (P 0 12) t) / pt P) + j) + 1))), some (.int (zI (wt P (cid P (ac P (P 0 11) (P 0 12) t)) (4 * ((ac P (P 0 11) (P 0 12) t) / pt P) + j)))), some (.int (zI 0))]) dX11_works_244 (by decide) rfl rfl ?_
              refine V_goto (tgt := 97) dX11_works_247 (by decide) ?_
              refine V_locE (L' := [some (.ref (a 0)), some (.int (zI wr)), some (.int (zI t)), some (.int (zI (cid P (ac P (P 0 11) (P 0 12) t)))), some (.int (zI ((ac P (P 0 11) (P 0 12) t) / pt P))), some (.int (zI (psm P (pvt P (P 0 11) (P 0 12) t) (ac P (P 0 11) (P 0 12) t) (j + 1)))), some (.int (zI (csm P (kvt P (P 0 11) (P 0 12) t) (ac P (P 0 11) (P 0 12) t) (j + 1)))), some (.int (zI (4 * ((ac P (P 0 11) (P 0 12) t) / pt P) + (j + 1)))), some (.int (zI (wt P (cid P (ac P (P 0 11) (P 0 12) t)) (4 * ((ac P (P 0 11) (P 0 12) t) / pt P) + j)))), some (.int (zI 0))]) (by rw [psm_s P _ _ hj.1, csm_s P _ _ hj.1, tkn_in w2.1, tkc_in w2.1, Int.add_assoc]  ) ?_
              refine V_mask (L' := [some (.ref (a 0)), some (.int (zI wr)), some (.int (zI t)), some (.int (zI (cid P (ac P (P 0 11) (P 0 12) t)))), some (.int (zI ((ac P (P 0 11) (P 0 12) t) / pt P))), some (.int (zI (psm P (pvt P (P 0 11) (P 0 12) t) (ac P (P 0 11) (P 0 12) t) (j + 1)))), some (.int (zI (csm P (kvt P (P 0 11) (P 0 12) t) (ac P (P 0 11) (P 0 12) t) (j + 1)))), some (.int (zI (4 * ((ac P (P 0 11) (P 0 12) t) / pt P) + (j + 1)))), none, none]) [true, true, true, true, true, true, true, true, false, false] rfl ?_
              refine ih_97 _ (by omega) (j + 1) rfl ?_ ?_
              · omega
              · omega
            · omega
          · omega
        · have w2 : ¬ inP P ((ac P (P 0 11) (P 0 12) t) % pt P) (4 * ((ac P (P 0 11) (P 0 12) t) / pt P) + j) := by rcases kw with w | w; exact w.2; exact (by have := (cid_b hM w.2.2.1.1 w.2.2.1.2).1; omega)
          have w3 : wi P ((ac P (P 0 11) (P 0 12) t) % pt P) (4 * ((ac P (P 0 11) (P 0 12) t) / pt P) + j) = (ac P (P 0 11) (P 0 12) t) % pt P / P 0 1 - P 7 (4 * ((ac P (P 0 11) (P 0 12) t) / pt P) + j) := rfl
          have w4 : wj P ((ac P (P 0 11) (P 0 12) t) % pt P) (4 * ((ac P (P 0 11) (P 0 12) t) / pt P) + j) = (ac P (P 0 11) (P 0 12) t) % pt P % P 0 1 - P 8 (4 * ((ac P (P 0 11) (P 0 12) t) / pt P) + j) := rfl
          refine V_aload_n dX11_works_128 rfl ?_
          refine V_iload_n dX11_works_129 rfl ?_
          refine V_callVF (As := [.int (zI (cid P (ac P (P 0 11) (P 0 12) t)))]) (b := a 0) (hb := (show (mW a σ1)[0]? = some (a 0, .inr (10, mF a σ1)) from rfl)) (hc := (show vwCl[10]? = some (RX11, TX11, 30) from rfl)) hK (c_row hE a σ1 (cid P (ac P (P 0 11) (P 0 12) t)) P ⟨hM, (hP.fr hf (by decide)), by refine ⟨?_, ?_⟩ <;> (try refine ⟨?_, ?_⟩) <;> omega⟩) mokX11_row w1219 w1221 wps1_15 ⟨Nat.le_of_ble_eq_true rfl, Nat.le_of_ble_eq_true rfl⟩ rfl (Nat.le_of_ble_eq_true rfl) ⟨Nat.le_refl _, Nat.le_refl _⟩ dX11_works_130 (fun v w p_10 => ?_)
          obtain ⟨rfl, rfl⟩ := p_10
          show V K sX11_works 0 0 (mW a σ1) _ [.int (zI ((cid P (ac P (P 0 11) (P 0 12) t)) % 64 / P 0 1))] 133
          refine V_aload_n dX11_works_133 rfl ?_
          refine mg_rowsBack rfl dX11_works_134 ?_
          refine V_iload dX11_works_137 rfl ?_
          refine ml_rowsBack ⟨by omega, by omega⟩ dX11_works_139 ?_
          refine V_isub dX11_works_140 ?_
          refine V_eqT (y := zI (wi P ((ac P (P 0 11) (P 0 12) t) % pt P) (4 * ((ac P (P 0 11) (P 0 12) t) / pt P) + j))) (by rw [kd.2.2, g7]; rfl) ?_
          refine V_aload_n dX11_works_141 rfl ?_
          refine V_iload_n dX11_works_142 rfl ?_
          refine V_callVF (As := [.int (zI (cid P (ac P (P 0 11) (P 0 12) t)))]) (b := a 0) (hb := (show (mW a σ1)[0]? = some (a 0, .inr (10, mF a σ1)) from rfl)) (hc := (show vwCl[10]? = some (RX11, TX11, 30) from rfl)) hK (c_column hE a σ1 (cid P (ac P (P 0 11) (P 0 12) t)) P ⟨hM, (hP.fr hf (by decide)), by refine ⟨?_, ?_⟩ <;> (try refine ⟨?_, ?_⟩) <;> omega⟩) mokX11_column w1223 w1225 wps2_0 ⟨Nat.le_of_ble_eq_true rfl, Nat.le_of_ble_eq_true rfl⟩ rfl (Nat.le_of_ble_eq_true rfl) ⟨Nat.le_refl _, Nat.le_refl _⟩ dX11_works_143 (fun v w p_11 => ?_)
          obtain ⟨rfl, rfl⟩ := p_11
          show V K sX11_works 0 0 (mW a σ1) _ [.int (zI ((cid P (ac P (P 0 11) (P 0 12) t)) % 64 % P 0 1)), .int (zI (wi P ((ac P (P 0 11) (P 0 12) t) % pt P) (4 * ((ac P (P 0 11) (P 0 12) t) / pt P) + j)))] 146
          refine V_aload_n dX11_works_146 rfl ?_
          refine mg_columnsBack rfl dX11_works_147 ?_
          refine V_iload dX11_works_150 rfl ?_
          refine ml_columnsBack ⟨by omega, by omega⟩ dX11_works_152 ?_
          refine V_isub dX11_works_153 ?_
          refine V_eqT (y := zI (wj P ((ac P (P 0 11) (P 0 12) t) % pt P) (4 * ((ac P (P 0 11) (P 0 12) t) / pt P) + j))) (by rw [kd.2.2, g8]; rfl) ?_
          refine V_aload_n dX11_works_154 rfl ?_
          refine mg_source rfl dX11_works_155 ?_
          refine V_iload dX11_works_158 rfl ?_
          refine ml_source ⟨by omega, by omega⟩ dX11_works_160 ?_
          refine V_eqT (y := zI (P 5 (4 * ((ac P (P 0 11) (P 0 12) t) / pt P) + j))) (by rw [g5]) ?_
          refine V_callSE (As := [.int (zI (wi P ((ac P (P 0 11) (P 0 12) t) % pt P) (4 * ((ac P (P 0 11) (P 0 12) t) / pt P) + j))), .int (zI (wj P ((ac P (P 0 11) (P 0 12) t) % pt P) (4 * ((ac P (P 0 11) (P 0 12) t) / pt P) + j))), .int (zI (P 5 (4 * ((ac P (P 0 11) (P 0 12) t) / pt P) + j)))]) hK (c_border hE (wi P ((ac P (P 0 11) (P 0 12) t) % pt P) (4 * ((ac P (P 0 11) (P 0 12) t) / pt P) + j)) (wj P ((ac P (P 0 11) (P 0 12) t) % pt P) (4 * ((ac P (P 0 11) (P 0 12) t) / pt P) + j)) (P 5 (4 * ((ac P (P 0 11) (P 0 12) t) / pt P) + j)) (⟨⟨by omega, by omega⟩, ⟨by omega, by omega⟩, ⟨by omega, by omega⟩⟩)) mokX11_border w1467 w1468 ⟨Nat.le_of_ble_eq_true rfl, Nat.le_of_ble_eq_true rfl⟩ rfl (Nat.le_of_ble_eq_true rfl) ⟨Nat.le_refl _, Nat.le_refl _⟩ dX11_works_161 (fun v w p_12 => ?_)
          obtain ⟨rfl, rfl⟩ := p_12
          show V K sX11_works 0 0 (mW a σ1) _ [.int (zI ((5 * (wi P ((ac P (P 0 11) (P 0 12) t) % pt P) (4 * ((ac P (P 0 11) (P 0 12) t) / pt P) + j)) + 7 * (wj P ((ac P (P 0 11) (P 0 12) t) % pt P) (4 * ((ac P (P 0 11) (P 0 12) t) / pt P) + j)) + (P 5 (4 * ((ac P (P 0 11) (P 0 12) t) / pt P) + j))) % 100))] 164
          refine V_goto (tgt := 168) dX11_works_164 (by decide) ?_
          refine V_eqT (y := zI (bdv P ((ac P (P 0 11) (P 0 12) t) % pt P) (4 * ((ac P (P 0 11) (P 0 12) t) / pt P) + j))) (rfl) ?_
          refine V_istore (L' := [some (.ref (a 0)), some (.int (zI wr)), some (.int (zI t)), some (.int (zI (cid P (ac P (P 0 11) (P 0 12) t)))), some (.int (zI ((ac P (P 0 11) (P 0 12) t) / pt P))), some (.int (zI (psm P (pvt P (P 0 11) (P 0 12) t) (ac P (P 0 11) (P 0 12) t) j))), some (.int (zI (csm P (kvt P (P 0 11) (P 0 12) t) (ac P (P 0 11) (P 0 12) t) j))), some (.int (zI (4 * ((ac P (P 0 11) (P 0 12) t) / pt P) + j))), some (.int (zI (wt P (cid P (ac P (P 0 11) (P 0 12) t)) (4 * ((ac P (P 0 11) (P 0 12) t) / pt P) + j)))), some (.int (zI (bdv P ((ac P (P 0 11) (P 0 12) t) % pt P) (4 * ((ac P (P 0 11) (P 0 12) t) / pt P) + j))))]) dX11_works_168 (by decide) rfl ?_
          refine V_iload dX11_works_170 rfl ?_
          refine V_aload_n dX11_works_172 rfl ?_
          refine mg_factor rfl dX11_works_173 ?_
          refine V_iload dX11_works_176 rfl ?_
          refine ml_factor ⟨by omega, by omega⟩ dX11_works_178 ?_
          refine V_eqT (y := zI (P 6 (4 * ((ac P (P 0 11) (P 0 12) t) / pt P) + j))) (by rw [g6]) ?_
          refine V_iload dX11_works_179 rfl ?_
          refine V_if_ge (tgt := 189) dX11_works_181 (by decide) ⟨by omega, by omega⟩ (fun c_13 => ?_) (fun c_13 => ?_)
          · omega
          · refine V_iload dX11_works_184 rfl ?_
            refine V_goto (tgt := 196) dX11_works_186 (by decide) ?_
            refine V_imul dX11_works_196 ?_
            refine V_iadd dX11_works_197 ?_
            refine V_istore (L' := [some (.ref (a 0)), some (.int (zI wr)), some (.int (zI t)), some (.int (zI (cid P (ac P (P 0 11) (P 0 12) t)))), some (.int (zI ((ac P (P 0 11) (P 0 12) t) / pt P))), some (.int (zI ((psm P (pvt P (P 0 11) (P 0 12) t) (ac P (P 0 11) (P 0 12) t) j) + ((P 6 (4 * ((ac P (P 0 11) (P 0 12) t) / pt P) + j)) * (bdv P ((ac P (P 0 11) (P 0 12) t) % pt P) (4 * ((ac P (P 0 11) (P 0 12) t) / pt P) + j)))))), some (.int (zI (csm P (kvt P (P 0 11) (P 0 12) t) (ac P (P 0 11) (P 0 12) t) j))), some (.int (zI (4 * ((ac P (P 0 11) (P 0 12) t) / pt P) + j))), some (.int (zI (wt P (cid P (ac P (P 0 11) (P 0 12) t)) (4 * ((ac P (P 0 11) (P 0 12) t) / pt P) + j)))), some (.int (zI (bdv P ((ac P (P 0 11) (P 0 12) t) % pt P) (4 * ((ac P (P 0 11) (P 0 12) t) / pt P) + j))))]) dX11_works_198 (by decide) rfl ?_
            refine V_iload dX11_works_200 rfl ?_
            refine V_aload_n dX11_works_202 rfl ?_
            refine mg_factor rfl dX11_works_203 ?_
            refine V_iload dX11_works_206 rfl ?_
            refine ml_factor ⟨by omega, by omega⟩ dX11_works_208 ?_
            refine V_eqT (y := zI (P 6 (4 * ((ac P (P 0 11) (P 0 12) t) / pt P) + j))) (by rw [g6]) ?_
            refine V_iload dX11_works_209 rfl ?_
            refine V_if_ge (tgt := 219) dX11_works_211 (by decide) ⟨by omega, by omega⟩ (fun c_14 => ?_) (fun c_14 => ?_)
            · omega
            · refine V_iload dX11_works_214 rfl ?_
              refine V_goto (tgt := 240) dX11_works_216 (by decide) ?_
              refine V_imul dX11_works_240 ?_
              refine V_iadd dX11_works_241 ?_
              refine V_istore (L' := [some (.ref (a 0)), some (.int (zI wr)), some (.int (zI t)), some (.int (zI (cid P (ac P (P 0 11) (P 0 12) t)))), some (.int (zI ((ac P (P 0 11) (P 0 12) t) / pt P))), some (.int (zI ((psm P (pvt P (P 0 11) (P 0 12) t) (ac P (P 0 11) (P 0 12) t) j) + ((P 6 (4 * ((ac P (P 0 11) (P 0 12) t) / pt P) + j)) * (bdv P ((ac P (P 0 11) (P 0 12) t) % pt P) (4 * ((ac P (P 0 11) (P 0 12) t) / pt P) + j)))))), some (.int (zI ((csm P (kvt P (P 0 11) (P 0 12) t) (ac P (P 0 11) (P 0 12) t) j) + ((P 6 (4 * ((ac P (P 0 11) (P 0 12) t) / pt P) + j)) * (bdv P ((ac P (P 0 11) (P 0 12) t) % pt P) (4 * ((ac P (P 0 11) (P 0 12) t) / pt P) + j)))))), some (.int (zI (4 * ((ac P (P 0 11) (P 0 12) t) / pt P) + j))), some (.int (zI (wt P (cid P (ac P (P 0 11) (P 0 12) t)) (4 * ((ac P (P 0 11) (P 0 12) t) / pt P) + j)))), some (.int (zI (bdv P ((ac P (P 0 11) (P 0 12) t) % pt P) (4 * ((ac P (P 0 11) (P 0 12) t) / pt P) + j))))]) dX11_works_242 (by decide) rfl ?_
              refine V_iinc (L' := [some (.ref (a 0)), some (.int (zI wr)), some (.int (zI t)), some (.int (zI (cid P (ac P (P 0 11) (P 0 12) t)))), some (.int (zI ((ac P (P 0 11) (P 0 12) t) / pt P))), some (.int (zI ((psm P (pvt P (P 0 11) (P 0 12) t) (ac P (P 0 11) (P 0 12) t) j) + ((P 6 (4 * ((ac P (P 0 11) (P 0 12) t) / pt P) + j)) * (bdv P ((ac P (P 0 11) (P 0 12) t) % pt P) (4 * ((ac P (P 0 11) (P 0 12) t) / pt P) + j)))))), some (.int (zI ((csm P (kvt P (P 0 11) (P 0 12) t) (ac P (P 0 11) (P 0 12) t) j) + ((P 6 (4 * ((ac P (P 0 11) (P 0 12) t) / pt P) + j)) * (bdv P ((ac P (P 0 11) (P 0 12) t) % pt P) (4 * ((ac P (P 0 11) (P 0 12) t) / pt P) + j)))))), some (.int (zI ((4 * ((ac P (P 0 11) (P 0 12) t) / pt P) + j) + 1))), some (.int (zI (wt P (cid P (ac P (P 0 11) (P 0 12) t)) (4 * ((ac P (P 0 11) (P 0 12) t) / pt P) + j)))), some (.int (zI (bdv P ((ac P (P 0 11) (P 0 12) t) % pt P) (4 * ((ac P (P 0 11) (P 0 12) t) / pt P) + j))))]) dX11_works_244 (by decide) rfl rfl ?_
              refine V_goto (tgt := 97) dX11_works_247 (by decide) ?_
              refine V_locE (L' := [some (.ref (a 0)), some (.int (zI wr)), some (.int (zI t)), some (.int (zI (cid P (ac P (P 0 11) (P 0 12) t)))), some (.int (zI ((ac P (P 0 11) (P 0 12) t) / pt P))), some (.int (zI (psm P (pvt P (P 0 11) (P 0 12) t) (ac P (P 0 11) (P 0 12) t) (j + 1)))), some (.int (zI (csm P (kvt P (P 0 11) (P 0 12) t) (ac P (P 0 11) (P 0 12) t) (j + 1)))), some (.int (zI (4 * ((ac P (P 0 11) (P 0 12) t) / pt P) + (j + 1)))), some (.int (zI (wt P (cid P (ac P (P 0 11) (P 0 12) t)) (4 * ((ac P (P 0 11) (P 0 12) t) / pt P) + j)))), some (.int (zI (bdv P ((ac P (P 0 11) (P 0 12) t) % pt P) (4 * ((ac P (P 0 11) (P 0 12) t) / pt P) + j))))]) (by rw [psm_s P _ _ hj.1, csm_s P _ _ hj.1, tkn_out w2, tkc_out w2, Int.add_assoc]  ) ?_
              refine V_mask (L' := [some (.ref (a 0)), some (.int (zI wr)), some (.int (zI t)), some (.int (zI (cid P (ac P (P 0 11) (P 0 12) t)))), some (.int (zI ((ac P (P 0 11) (P 0 12) t) / pt P))), some (.int (zI (psm P (pvt P (P 0 11) (P 0 12) t) (ac P (P 0 11) (P 0 12) t) (j + 1)))), some (.int (zI (csm P (kvt P (P 0 11) (P 0 12) t) (ac P (P 0 11) (P 0 12) t) (j + 1)))), some (.int (zI (4 * ((ac P (P 0 11) (P 0 12) t) / pt P) + (j + 1)))), none, none]) [true, true, true, true, true, true, true, true, false, false] rfl ?_
              refine ih_97 _ (by omega) (j + 1) rfl ?_ ?_
              · omega
              · omega
    have seg_97 : ∀ (j : Int), (t < al P) → (0 ≤ j ∧ j ≤ P 4 ((ac P (P 0 11) (P 0 12) t) / pt P)) → V K sX11_works 0 0 (mW a σ1) [some (.ref (a 0)), some (.int (zI wr)), some (.int (zI t)), some (.int (zI (cid P (ac P (P 0 11) (P 0 12) t)))), some (.int (zI ((ac P (P 0 11) (P 0 12) t) / pt P))), some (.int (zI (psm P (pvt P (P 0 11) (P 0 12) t) (ac P (P 0 11) (P 0 12) t) j))), some (.int (zI (csm P (kvt P (P 0 11) (P 0 12) t) (ac P (P 0 11) (P 0 12) t) j))), some (.int (zI (4 * ((ac P (P 0 11) (P 0 12) t) / pt P) + j))), none, none] [] 97 := fun j htn hj => loop_97 _ j rfl htn hj
    refine V_iload_n dX11_works_52 rfl ?_
    refine V_aload_n dX11_works_53 rfl ?_
    refine V_callVF (As := []) (b := a 0) (hb := (show (mW a σ1)[0]? = some (a 0, .inr (10, mF a σ1)) from rfl)) (hc := (show vwCl[10]? = some (RX11, TX11, 30) from rfl)) hK (c_all hE a σ1 P ⟨hM, (hP.fr hf (by decide))⟩) mokX11_all w1211 w1213 wps1_13 ⟨Nat.le_of_ble_eq_true rfl, Nat.le_of_ble_eq_true rfl⟩ rfl (Nat.le_of_ble_eq_true rfl) ⟨Nat.le_refl _, Nat.le_refl _⟩ dX11_works_54 (fun v w p_15 => ?_)
    obtain ⟨rfl, rfl⟩ := p_15
    show V K sX11_works 0 0 (mW a σ1) _ [.int (zI (al P)), .int (zI t)] 57
    refine V_icmp_ge (tgt := 328) dX11_works_57 (by decide) ⟨⟨by omega, by omega⟩, ⟨by omega, by omega⟩⟩ (fun c_16 => ?_) (fun c_16 => ?_)
    · refine V_iload_n dX11_works_328 rfl ?_
      refine V_iret hR rfl (Nat.le_refl _) (Nat.le_refl _) dX11_works_329 ?_
      refine ⟨σ1, ziE (fws_eq (by rw [← show t = al P by omega]; exact hw)), rfl, hf, fun k a b => ?_, fun k a b => hc k a b ?_⟩
      · have hb := bt_b (bw := P 0 11) (cw := P 0 12) a b
        rw [hv k a b, pvt_of a b t ht.1 ht.2, if_pos (by omega)]
      · have hb := bt_b (bw := P 0 11) (cw := P 0 12) a b
        omega
    · have ka := hD.at ht.1 (show t < al P by omega)
      have kc := ac_spec (bw := P 0 11) (cw := P 0 12) ht.1 (show t < al P by omega)
      have kd := cid_b hM kc.1 kc.2.1
      have ke := cell_st hM kc.1 kc.2.1
      have q4 := (hM.2.2.2.2.2.1 ((ac P (P 0 11) (P 0 12) t) / pt P) (by omega) (by omega)).2.1
      refine V_aload_n dX11_works_60 rfl ?_
      refine mg_cellAt rfl dX11_works_61 ?_
      refine V_iload_n dX11_works_64 rfl ?_
      refine ml_cellAt ⟨by omega, by omega⟩ dX11_works_65 ?_
      refine V_eqT (y := zI (cid P (ac P (P 0 11) (P 0 12) t))) (by rw [ka]) ?_
      refine V_istore_n (L' := [some (.ref (a 0)), some (.int (zI wr)), some (.int (zI t)), some (.int (zI (cid P (ac P (P 0 11) (P 0 12) t)))), none, none, none, none, none, none]) dX11_works_66 (by decide) rfl ?_
      refine V_iload_n dX11_works_67 rfl ?_
      refine V_bipush dX11_works_68 (by decide) ?_
      refine V_idiv dX11_works_70 ⟨⟨by omega, by omega⟩, ⟨by omega, by omega⟩, by omega, by omega⟩ ?_
      refine V_eqT (y := zI ((ac P (P 0 11) (P 0 12) t) / pt P)) (by rw [kd.2.1]) ?_
      refine V_istore (L' := [some (.ref (a 0)), some (.int (zI wr)), some (.int (zI t)), some (.int (zI (cid P (ac P (P 0 11) (P 0 12) t)))), some (.int (zI ((ac P (P 0 11) (P 0 12) t) / pt P))), none, none, none, none, none]) dX11_works_71 (by decide) rfl ?_
      refine V_aload_n dX11_works_73 rfl ?_
      refine mg_addend rfl dX11_works_74 ?_
      refine V_iload dX11_works_77 rfl ?_
      refine ml_addend ⟨by omega, by omega⟩ dX11_works_79 ?_
      refine V_eqT (y := zI (psm P (pvt P (P 0 11) (P 0 12) t) (ac P (P 0 11) (P 0 12) t) 0)) (by rw [psm_0, g3]) ?_
      refine V_istore (L' := [some (.ref (a 0)), some (.int (zI wr)), some (.int (zI t)), some (.int (zI (cid P (ac P (P 0 11) (P 0 12) t)))), some (.int (zI ((ac P (P 0 11) (P 0 12) t) / pt P))), some (.int (zI (psm P (pvt P (P 0 11) (P 0 12) t) (ac P (P 0 11) (P 0 12) t) 0))), none, none, none, none]) dX11_works_80 (by decide) rfl ?_
      refine V_aload_n dX11_works_82 rfl ?_
      refine mg_addend rfl dX11_works_83 ?_
      refine V_iload dX11_works_86 rfl ?_
      refine ml_addend ⟨by omega, by omega⟩ dX11_works_88 ?_
      refine V_eqT (y := zI (csm P (kvt P (P 0 11) (P 0 12) t) (ac P (P 0 11) (P 0 12) t) 0)) (by rw [csm_0, g3]) ?_
      refine V_istore (L' := [some (.ref (a 0)), some (.int (zI wr)), some (.int (zI t)), some (.int (zI (cid P (ac P (P 0 11) (P 0 12) t)))), some (.int (zI ((ac P (P 0 11) (P 0 12) t) / pt P))), some (.int (zI (psm P (pvt P (P 0 11) (P 0 12) t) (ac P (P 0 11) (P 0 12) t) 0))), some (.int (zI (csm P (kvt P (P 0 11) (P 0 12) t) (ac P (P 0 11) (P 0 12) t) 0))), none, none, none]) dX11_works_89 (by decide) rfl ?_
      refine V_iconst dX11_works_91 ?_
      refine V_iload dX11_works_92 rfl ?_
      refine V_imul dX11_works_94 ?_
      refine V_eqT (y := zI (4 * ((ac P (P 0 11) (P 0 12) t) / pt P) + 0)) (by rw [Int.add_zero]) ?_
      refine V_istore (L' := [some (.ref (a 0)), some (.int (zI wr)), some (.int (zI t)), some (.int (zI (cid P (ac P (P 0 11) (P 0 12) t)))), some (.int (zI ((ac P (P 0 11) (P 0 12) t) / pt P))), some (.int (zI (psm P (pvt P (P 0 11) (P 0 12) t) (ac P (P 0 11) (P 0 12) t) 0))), some (.int (zI (csm P (kvt P (P 0 11) (P 0 12) t) (ac P (P 0 11) (P 0 12) t) 0))), some (.int (zI (4 * ((ac P (P 0 11) (P 0 12) t) / pt P) + 0))), none, none]) dX11_works_95 (by decide) rfl ?_
      refine seg_97 0 ?_ ?_
      · omega
      · omega
  have seg_52 : ∀ (t : Int) (wr : Int) (σ1 : St), (0 ≤ t ∧ t ≤ al P) → (fr [16, 17, 18, 20, 21, 22] σ σ1) → (Dealt P (P 0 11) (P 0 12) σ1) → (∀ k, 0 ≤ k → k < al P → σ1 20 (cid P k) = pvt P (P 0 11) (P 0 12) t k) → (∀ s q, 0 ≤ s → s < 4 → 0 ≤ q → q < 704 → σ1 21 (704 * s + q) = kvt P (P 0 11) (P 0 12) t s q) → (∀ k, 0 ≤ k → k < al P → bt P (P 0 11) (P 0 12) k < t → σ1 22 (cid P k) = cof P (P 0 11) (P 0 12) k) → (IsFw P (P 0 11) (P 0 12) t wr) → (-1 ≤ wr ∧ wr ≤ 256) → V K sX11_works 0 0 (mW a σ1) [some (.ref (a 0)), some (.int (zI wr)), some (.int (zI t)), none, none, none, none, none, none, none] [] 52 := fun t wr σ1 ht hf hD hv hk hc hw hwb => loop_52 _ t wr σ1 rfl ht hf hD hv hk hc hw hwb
  have loop_28 : ∀ (n0 : Nat) (u : Int) (σ1 : St), (2816 - u).toNat = n0 → (0 ≤ u ∧ u ≤ 2816) → (fr [16, 17, 18, 20, 21, 22] σ σ1) → (Dealt P (P 0 11) (P 0 12) σ1) → (∀ x, 0 ≤ x → x < 256 → σ1 20 x = 0) → (∀ x, 0 ≤ x → x < u → σ1 21 x = 0) → V K sX11_works 0 0 (mW a σ1) [some (.ref (a 0)), some (.int (zI u)), none, none, none, none, none, none, none, none] [] 28 := by
    intro n0
    induction n0 using Nat.strongRecOn with
    | _ n0 ih_28 =>
    intro u σ1 hm_28 hu hf hD hz0 hz
    refine V_iload_n dX11_works_28 rfl ?_
    refine V_sipush dX11_works_29 (by decide) ?_
    refine V_icmp_ge (tgt := 48) dX11_works_32 (by decide) ⟨⟨by omega, by omega⟩, ⟨by omega, by omega⟩⟩ (fun c_17 => ?_) (fun c_17 => ?_)
    · refine V_iconst dX11_works_48 ?_
      refine V_istore_n (L' := [some (.ref (a 0)), some (.int (zI (-1))), none, none, none, none, none, none, none, none]) dX11_works_49 (by decide) rfl ?_
      refine V_iconst dX11_works_50 ?_
      refine V_istore_n (L' := [some (.ref (a 0)), some (.int (zI (-1))), some (.int (zI 0)), none, none, none, none, none, none, none]) dX11_works_51 (by decide) rfl ?_
      refine seg_52 0 (-1) σ1 ?_ ?_ ?_ ?_ ?_ ?_ ?_ ?_
      · omega
      · exact hf
      · exact hD
      · intro k a b
        have := (cid_b hM a b).1
        rw [pvt_0, hz0 _ this.1 (by omega)]
      · intro s q s0 s1 q0 q1
        rw [kvt_0, hz _ (by omega) (by omega)]
      · intro k a b h
        have := bt_b (bw := P 0 11) (cw := P 0 12) a b
        omega
      · exact Or.inl ⟨rfl, fun x a b => by omega⟩
      · decide
    · refine V_aload_n dX11_works_35 rfl ?_
      refine mg_kept rfl dX11_works_36 ?_
      refine V_iload_n dX11_works_39 rfl ?_
      refine V_iconst dX11_works_40 ?_
      refine ms_kept ⟨by omega, by omega⟩ dX11_works_41 ?_
      refine V_iinc (L' := [some (.ref (a 0)), some (.int (zI (u + 1))), none, none, none, none, none, none, none, none]) dX11_works_42 (by decide) rfl rfl ?_
      refine V_goto (tgt := 28) dX11_works_45 (by decide) ?_
      refine ih_28 _ (by omega) (u + 1) (up σ1 21 u 0) rfl ?_ ?_ ?_ ?_ ?_
      · omega
      · exact hf.upd (by decide)
      · exact hD
      · exact hz0
      · intro x a b
        rw [up_eq]
        by_cases e : x = u
        · rw [e, fup_eq]
        · rw [fup_ne e]; exact hz x a (by omega)
  have seg_28 : ∀ (u : Int) (σ1 : St), (0 ≤ u ∧ u ≤ 2816) → (fr [16, 17, 18, 20, 21, 22] σ σ1) → (Dealt P (P 0 11) (P 0 12) σ1) → (∀ x, 0 ≤ x → x < 256 → σ1 20 x = 0) → (∀ x, 0 ≤ x → x < u → σ1 21 x = 0) → V K sX11_works 0 0 (mW a σ1) [some (.ref (a 0)), some (.int (zI u)), none, none, none, none, none, none, none, none] [] 28 := fun u σ1 hu hf hD hz0 hz => loop_28 _ u σ1 rfl hu hf hD hz0 hz
  have loop_6 : ∀ (n0 : Nat) (u : Int) (σ1 : St), (256 - u).toNat = n0 → (0 ≤ u ∧ u ≤ 256) → (fr [16, 17, 18, 20, 21, 22] σ σ1) → (Dealt P (P 0 11) (P 0 12) σ1) → (∀ x, 0 ≤ x → x < u → σ1 20 x = 0) → V K sX11_works 0 0 (mW a σ1) [some (.ref (a 0)), some (.int (zI u)), none, none, none, none, none, none, none, none] [] 6 := by
    intro n0
    induction n0 using Nat.strongRecOn with
    | _ n0 ih_6 =>
    intro u σ1 hm_6 hu hf hD hz
    refine V_iload_n dX11_works_6 rfl ?_
    refine V_sipush dX11_works_7 (by decide) ?_
    refine V_icmp_ge (tgt := 26) dX11_works_10 (by decide) ⟨⟨by omega, by omega⟩, ⟨by omega, by omega⟩⟩ (fun c_18 => ?_) (fun c_18 => ?_)
    · refine V_iconst dX11_works_26 ?_
      refine V_istore_n (L' := [some (.ref (a 0)), some (.int (zI 0)), none, none, none, none, none, none, none, none]) dX11_works_27 (by decide) rfl ?_
      refine seg_28 0 σ1 ?_ ?_ ?_ ?_ ?_
      · omega
      · exact hf
      · exact hD
      · intro x a b; exact hz x a (by omega)
      · intro x a b; omega
    · refine V_aload_n dX11_works_13 rfl ?_
      refine mg_value rfl dX11_works_14 ?_
      refine V_iload_n dX11_works_17 rfl ?_
      refine V_iconst dX11_works_18 ?_
      refine ms_value ⟨by omega, by omega⟩ dX11_works_19 ?_
      refine V_iinc (L' := [some (.ref (a 0)), some (.int (zI (u + 1))), none, none, none, none, none, none, none, none]) dX11_works_20 (by decide) rfl rfl ?_
      refine V_goto (tgt := 6) dX11_works_23 (by decide) ?_
      refine ih_6 _ (by omega) (u + 1) (up σ1 20 u 0) rfl ?_ ?_ ?_ ?_
      · omega
      · exact hf.upd (by decide)
      · exact hD
      · intro x a b
        rw [up_eq]
        by_cases e : x = u
        · rw [e, fup_eq]
        · rw [fup_ne e]; exact hz x a (by omega)
  have seg_6 : ∀ (u : Int) (σ1 : St), (0 ≤ u ∧ u ≤ 256) → (fr [16, 17, 18, 20, 21, 22] σ σ1) → (Dealt P (P 0 11) (P 0 12) σ1) → (∀ x, 0 ≤ x → x < u → σ1 20 x = 0) → V K sX11_works 0 0 (mW a σ1) [some (.ref (a 0)), some (.int (zI u)), none, none, none, none, none, none, none, none] [] 6 := fun u σ1 hu hf hD hz => loop_6 _ u σ1 rfl hu hf hD hz
  refine V_aload_n dX11_works_0 rfl ?_
  refine V_callVF (As := []) (b := a 0) (hb := (show (mW a σ)[0]? = some (a 0, .inr (10, mF a σ)) from rfl)) (hc := (show vwCl[10]? = some (RX11, TX11, 30) from rfl)) hK (c_orders hE a σ P ⟨hM, hP⟩) mokX11_orders w1263 w1265 wps2_6 ⟨Nat.le_of_ble_eq_true rfl, Nat.le_of_ble_eq_true rfl⟩ rfl (Nat.le_of_ble_eq_true rfl) ⟨Nat.le_refl _, Nat.le_refl _⟩ dX11_works_1 (fun v w p_19 => ?_)
  obtain ⟨σ_20, rfl, rfl, q_21, q_22⟩ := p_19
  show V K sX11_works 0 0 (mW a σ_20) _ [] 4
  refine V_iconst dX11_works_4 ?_
  refine V_istore_n (L' := [some (.ref (a 0)), some (.int (zI 0)), none, none, none, none, none, none, none, none]) dX11_works_5 (by decide) rfl ?_
  refine seg_6 0 σ_20 ?_ ?_ ?_ ?_
  · omega
  · exact q_21.mono (by decide)
  · exact q_22
  · intro x a b; omega

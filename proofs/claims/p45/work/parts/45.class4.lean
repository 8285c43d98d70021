/-! the class: the work; a whole array written -/
def upW (κ : St) (k : Nat) (f : Int → Int) : St := fun k2 => if k2 = k then f else κ k2
theorem upW_eq (κ : St) (k : Nat) (f : Int → Int) : upW κ k f k = f := if_pos rfl
theorem upW_ne {κ : St} {k j : Nat} {f : Int → Int} (h : j ≠ k) : upW κ k f j = κ j := if_neg h
def fillF (N : Nat) (f : Int → Int) (v : Int) : Int → Int := fun j => if 0 ≤ j ∧ j < (N : Int) then v else f j
theorem CI.upW {P κ : St} (h : CI P κ) {k : Nat} {f : Int → Int} (hk : (16 ≤ k ∧ k ≠ 49 ∧ k ≠ 80) ∨ k = 1) : CI P (upW κ k f) := by
  refine ⟨fun j h1 h2 => by rw [upW_ne (by omega)]; exact h.1 j h1 h2, ?_, fun j h0 h1 h2 => ?_⟩
  · rw [upW_ne (by omega)]; exact h.2.1
  · rw [upW_ne (by omega)]
    refine h.2.2 j h0 h1 ?_
    unfold lsz at h2 ⊢
    rw [upW_ne (by omega), upW_ne (by omega)] at h2
    exact h2
theorem fr.updW {ks : List Nat} {σ σ2 : St} (h : fr ks σ σ2) {k : Nat} {f : Int → Int} (hk : k ∈ ks) : fr ks σ (upW σ2 k f) := fun j hj => by
  rw [upW_ne (fun e : j = k => hj (by rw [e]; exact hk))]; exact h j hj
theorem stw_wk_number {en c : Nat → Nat} {κ : St} (f : Int → Int) : (cO en c κ).set 3 (some (c 3, iE 0 256 f)) = cO en c (upW κ 51 f) := rfl
theorem stw_wk_row {en c : Nat → Nat} {κ : St} (f : Int → Int) : (cO en c κ).set 4 (some (c 4, iE 0 256 f)) = cO en c (upW κ 52 f) := rfl
theorem stw_wk_column {en c : Nat → Nat} {κ : St} (f : Int → Int) : (cO en c κ).set 5 (some (c 5, iE 0 256 f)) = cO en c (upW κ 53 f) := rfl
theorem stw_wk_birth {en c : Nat → Nat} {κ : St} (f : Int → Int) : (cO en c κ).set 6 (some (c 6, iE 0 256 f)) = cO en c (upW κ 54 f) := rfl
theorem stw_wk_end {en c : Nat → Nat} {κ : St} (f : Int → Int) : (cO en c κ).set 7 (some (c 7, iE 0 256 f)) = cO en c (upW κ 55 f) := rfl
theorem stw_wk_cellAt {en c : Nat → Nat} {κ : St} (f : Int → Int) : (cO en c κ).set 8 (some (c 8, iE 0 256 f)) = cO en c (upW κ 56 f) := rfl
theorem stw_wk_time {en c : Nat → Nat} {κ : St} (f : Int → Int) : (cO en c κ).set 9 (some (c 9, iE 0 256 f)) = cO en c (upW κ 57 f) := rfl
theorem stw_wk_nextStep {en c : Nat → Nat} {κ : St} (f : Int → Int) : (cO en c κ).set 10 (some (c 10, iE 0 158 f)) = cO en c (upW κ 58 f) := rfl
theorem stw_wk_change {en c : Nat → Nat} {κ : St} (f : Int → Int) : (cO en c κ).set 11 (some (c 11, iE 0 258 f)) = cO en c (upW κ 59 f) := rfl
theorem stw_df_known {en c : Nat → Nat} {κ : St} (f : Int → Int) : (cO en c κ).set 13 (some (c 13, iE 1 225 f)) = cO en c (upW κ 60 f) := rfl
theorem stw_df_rowDifference {en c : Nat → Nat} {κ : St} (f : Int → Int) : (cO en c κ).set 14 (some (c 14, iE 0 225 f)) = cO en c (upW κ 61 f) := rfl
theorem stw_df_columnDifference {en c : Nat → Nat} {κ : St} (f : Int → Int) : (cO en c κ).set 15 (some (c 15, iE 0 225 f)) = cO en c (upW κ 62 f) := rfl
theorem stw_df_inLine {en c : Nat → Nat} {κ : St} (f : Int → Int) : (cO en c κ).set 16 (some (c 16, iE 1 64 f)) = cO en c (upW κ 63 f) := rfl
theorem stw_kr {en c : Nat → Nat} {κ : St} {m j : Int} (f : Int → Int) (h : (0 ≤ m ∧ m ≤ 1) ∧ 0 ≤ j ∧ j < 4) : (cO en c κ).set (20 + 6 * m.toNat + j.toNat) (some (c (20 + 6 * m.toNat + j.toNat), iE 0 (kL m) f)) = cO en c (upW κ (70 + 4 * m.toNat + j.toNat) f) := by
  obtain ⟨h1, h2⟩ := h
  obtain rfl | rfl : m = 0 ∨ m = 1 := (by omega) <;> (obtain rfl | rfl | rfl | rfl : j = 0 ∨ j = 1 ∨ j = 2 ∨ j = 3 := (by omega)) <;> rfl
set_option maxRecDepth 100000 in
theorem k_fill (en : Nat → Nat) (a N : Nat) (f : Int → Int) (v : Int) (hN : N < 2147483648) : MC (EN en) yJ7_fill_53178 sJ7_fill_53178 [.ref a, .int (zI v)] [(a, iE 0 N f)] (fun r w => r = none ∧ w = [(a, iE 0 N (fillF N f v))]) := by
  refine MC.of (EN.stb en) [some (.ref a), some (.int (zI v)), none, none] 2 rfl rfl rfl (by simp [Value.category]) (Nat.le_of_ble_eq_true rfl) (fun K hK hR => ?_)
  have loop : ∀ (n0 : Nat) (j : Int), ((N : Int) - j).toNat = n0 → 0 ≤ j ∧ j ≤ (N : Int) → V K sJ7_fill_53178 0 0 [(a, iE 0 N (fun i => if 0 ≤ i ∧ i < j then v else f i))] [some (.ref a), some (.int (zI v)), some (.int (zI j)), some (.int (zI (N : Int)))] [] 5 := by
    intro n0
    induction n0 using Nat.strongRecOn with
    | _ n0 ih =>
    intro j hm hj
    refine V_iload_n dJ7_fill_53178_5 rfl ?_
    refine V_iload_n dJ7_fill_53178_6 rfl ?_
    refine V_icmp_ge (tgt := 20) dJ7_fill_53178_7 (by decide) ⟨⟨by omega, by omega⟩, ⟨by omega, by omega⟩⟩ (fun c => ?_) (fun c => ?_)
    · refine V_vret hR rfl (Nat.le_of_ble_eq_true rfl) (Nat.le_of_ble_eq_true rfl) dJ7_fill_53178_20 ?_
      have e : j = (N : Int) := by omega
      subst e
      exact ⟨rfl, rfl⟩
    · refine V_aload_n dJ7_fill_53178_10 rfl ?_
      refine V_iload_n dJ7_fill_53178_11 rfl ?_
      refine V_iload_n dJ7_fill_53178_12 rfl ?_
      refine V_iast (N := N) 0 rfl ⟨by omega, by omega⟩ hN dJ7_fill_53178_13 ?_
      refine V_iinc (L' := [some (.ref a), some (.int (zI v)), some (.int (zI (j + 1))), some (.int (zI (N : Int)))]) dJ7_fill_53178_14 (by decide) rfl rfl ?_
      refine V_goto (tgt := 5) dJ7_fill_53178_17 (by decide) ?_
      have e : fup (fun i => if 0 ≤ i ∧ i < j then v else f i) j v = (fun i => if 0 ≤ i ∧ i < j + 1 then v else f i) := by
        funext i
        show (if i = j then v else (if 0 ≤ i ∧ i < j then v else f i)) = (if 0 ≤ i ∧ i < j + 1 then v else f i)
        by_cases h1 : i = j
        · rw [if_pos h1, if_pos (by omega)]
        · rw [if_neg h1]
          by_cases h2 : 0 ≤ i ∧ i < j
          · rw [if_pos h2, if_pos (by omega)]
          · rw [if_neg h2, if_neg (by omega)]
      show V K sJ7_fill_53178 0 0 [(a, iE 0 N (fup (fun i => if 0 ≤ i ∧ i < j then v else f i) j v))] _ [] 5
      rw [e]
      exact ih _ (by omega) (j + 1) rfl ⟨by omega, by omega⟩
  refine V_iconst dJ7_fill_53178_0 ?_
  refine V_istore_n (L' := [some (.ref a), some (.int (zI v)), some (.int (zI 0)), none]) dJ7_fill_53178_1 (by decide) rfl ?_
  refine V_aload_n dJ7_fill_53178_2 rfl ?_
  refine V_alen 0 rfl (fun _ => rfl) dJ7_fill_53178_3 ?_
  refine V_istore_n (L' := [some (.ref a), some (.int (zI v)), some (.int (zI 0)), some (.int (zI (N : Int)))]) dJ7_fill_53178_4 (by decide) rfl ?_
  have e0 : f = (fun i => if 0 ≤ i ∧ i < 0 then v else f i) := by
    funext i
    rw [if_neg (by omega)]
  have h0 := loop _ 0 rfl ⟨by omega, by omega⟩
  rw [← e0] at h0
  exact h0
/-- the first n cells are laid -/
def TP (P : St) (bw cw n : Int) (κ : St) : Prop := ∀ k, 0 ≤ k → k < n → (κ 51 k = k / pt P ∧ κ 52 k = k % pt P / P 0 1 ∧ κ 53 k = k % pt P % P 0 1) ∧ κ 57 k = tm P bw cw k
theorem TP.step {P κ : St} {bw cw n s i j v : Int} (h : TP P bw cw n κ) (e1 : n / pt P = s) (e2 : n % pt P / P 0 1 = i) (e3 : n % pt P % P 0 1 = j) (e4 : tm P bw cw n = v) : TP P bw cw (n + 1) (Jvm.Pilot.@@N@@.up (Jvm.Pilot.@@N@@.up (Jvm.Pilot.@@N@@.up (Jvm.Pilot.@@N@@.up κ 51 n s) 52 n i) 53 n j) 57 n v) := by
  intro k h0 h1
  show ((if k = n then s else κ 51 k) = _ ∧ (if k = n then i else κ 52 k) = _ ∧ (if k = n then j else κ 53 k) = _) ∧ (if k = n then v else κ 57 k) = _
  by_cases e : k = n
  · rw [if_pos e, if_pos e, if_pos e, if_pos e, e]
    exact ⟨⟨e1.symm, e2.symm, e3.symm⟩, e4.symm⟩
  · rw [if_neg e, if_neg e, if_neg e, if_neg e]
    exact h k h0 (by omega)
set_option maxRecDepth 100000 in
set_option maxHeartbeats 4000000 in
theorem k_w9_setTimes (en : Nat → Nat) (c : Nat → Nat) (κ : St) (s : Int) (bw : Int) (cw : Int) (P : St) (hp : MI P ∧ CI P κ ∧ (0 ≤ s ∧ s < P 0 2) ∧ TP P bw cw (s * pt P) κ) : MC (EN en) yX9_setTimes sX9_setTimes [.ref (c 2), .ref (c 1), .int (zI s), .int (zI bw), .int (zI cw)] (fm (cO en c κ)) (fun v w => ∃ κ2 : St, v = none ∧ w = fm (cO en c κ2) ∧ (CI P κ2) ∧ (TP P bw cw ((s + 1) * pt P) κ2) ∧ (fr [51, 52, 53, 57] κ κ2)) := by
  refine MC.of (EN.stb en) [some (.ref (c 2)), some (.ref (c 1)), some (.int (zI s)), some (.int (zI bw)), some (.int (zI cw)), none, none, none, none] 4 rfl rfl rfl (by simp [Value.category]) (Nat.le_of_ble_eq_true rfl) (fun K hK hR => ?_)
  obtain ⟨hM, hC, hp⟩ := hp
  have hN4 := hM.2.2.1
  obtain ⟨hs, hT⟩ := hp
  obtain ⟨κ0, hκ0⟩ : ∃ κ0 : St, κ0 = κ := ⟨κ, rfl⟩
  have hF : fr [51, 52, 53, 57] κ0 κ := by rw [hκ0]; exact fr.rf _ _
  have hm1 := hM.1
  have hm2 := hM.2.1
  have loop_26 : ∀ (n0 : Nat) (κ : St) (i : Int) (cell : Int), (P 0 0 - i).toNat = n0 → (CI P κ) → (0 ≤ i ∧ i ≤ P 0 0) → (cell = s * pt P + i * P 0 1) → (TP P bw cw cell κ) → (fr [51, 52, 53, 57] κ0 κ) → V K sX9_setTimes 0 0 (fm (cO en c κ)) [some (.ref (c 2)), some (.ref (c 1)), some (.int (zI s)), some (.int (zI bw)), some (.int (zI cw)), some (.int (zI (P 10 s))), some (.int (zI cell)), some (.int (zI i)), none] [] 26 := by
    intro n0
    induction n0 using Nat.strongRecOn with
    | _ n0 ih_26 =>
    intro κ i cell hm_26 hC hi hc hT hF
    have loop_38 : ∀ (n0 : Nat) (κ : St) (j : Int) (cell : Int), (P 0 1 - j).toNat = n0 → (CI P κ) → (i < P 0 0) → (0 ≤ j ∧ j ≤ P 0 1) → (cell = s * pt P + (i * P 0 1 + j)) → (TP P bw cw cell κ) → (fr [51, 52, 53, 57] κ0 κ) → V K sX9_setTimes 0 0 (fm (cO en c κ)) [some (.ref (c 2)), some (.ref (c 1)), some (.int (zI s)), some (.int (zI bw)), some (.int (zI cw)), some (.int (zI (P 10 s))), some (.int (zI cell)), some (.int (zI i)), some (.int (zI j))] [] 38 := by
      intro n0
      induction n0 using Nat.strongRecOn with
      | _ n0 ih_38 =>
      intro κ j cell hm_38 hC hii hj hc hT hF
      refine V_iload dX9_setTimes_38 rfl ?_
      refine V_aload_n dX9_setTimes_40 rfl ?_
      refine VO_getN (C0 := RX5) (T := TX5) (N := 4) (ci := 4) (fs := prF c κ) 1 2 iwX5 (by decide) hK wn77 rfl (at_pr) rfl dX9_setTimes_41 ?_
      refine V_eqT (y := zI (P 0 1)) (congrArg zI (congrFun ((hC).1 0 (by decide) (by decide)) _)) ?_
      refine V_icmp_ge (tgt := 102) dX9_setTimes_44 (by decide) ⟨⟨by omega, by omega⟩, ⟨by omega, by omega⟩⟩ (fun c_1 => ?_) (fun c_1 => ?_)
      · refine V_iinc (L' := [some (.ref (c 2)), some (.ref (c 1)), some (.int (zI s)), some (.int (zI bw)), some (.int (zI cw)), some (.int (zI (P 10 s))), some (.int (zI cell)), some (.int (zI (i + 1))), some (.int (zI j))]) dX9_setTimes_102 (by decide) rfl rfl ?_
        refine V_goto (tgt := 26) dX9_setTimes_105 (by decide) ?_
        refine V_mask (L' := [some (.ref (c 2)), some (.ref (c 1)), some (.int (zI s)), some (.int (zI bw)), some (.int (zI cw)), some (.int (zI (P 10 s))), some (.int (zI cell)), some (.int (zI (i + 1))), none]) [true, true, true, true, true, true, true, true, false] rfl ?_
        refine ih_26 _ (by omega) κ (i + 1) cell rfl ?_ ?_ ?_ ?_ ?_
        · exact hC
        · omega
        · rw [Int.add_mul, Int.one_mul]; omega
        · exact hT
        · exact hF
      · have hin : inF P i j := ⟨by omega, by omega, by omega, by omega⟩
        have hrd := rdp_b hM hin
        have hcq := comp_eq hM hs.1 hs.2 hrd.1 hrd.2.1
        have hal := hM.als
        have htm := tm_at hM (bw := bw) (cw := cw) hs hin
        rw [← hc] at hcq htm
        have e2 : cell % pt P / P 0 1 = i := by rw [hcq.2.2.1]; exact hrd.2.2.1
        have e3 : cell % pt P % P 0 1 = j := by rw [hcq.2.2.1]; exact hrd.2.2.2
        refine V_aload_n dX9_setTimes_47 rfl ?_
        refine VO_getf (C0 := RX9) (T := TX9) (N := 10) (ci := 8) (fs := wkF c κ) 2 0 iwX9 (by decide) w97 (Or.inl rfl) rfl (at_wk) rfl dX9_setTimes_48 ?_
        refine V_iload dX9_setTimes_51 rfl ?_
        refine V_iload_n dX9_setTimes_53 rfl ?_
        refine VO_iast 3 at_wk_number ⟨by omega, by omega⟩ (by decide) dX9_setTimes_54 (st_wk_number cell s) ?_
        refine V_aload_n dX9_setTimes_55 rfl ?_
        refine VO_getf (C0 := RX9) (T := TX9) (N := 10) (ci := 8) (fs := wkF c (up κ 51 cell s)) 2 1 iwX9 (by decide) w100 (Or.inl rfl) rfl (at_wk) rfl dX9_setTimes_56 ?_
        refine V_iload dX9_setTimes_59 rfl ?_
        refine V_iload dX9_setTimes_61 rfl ?_
        refine VO_iast 4 at_wk_row ⟨by omega, by omega⟩ (by decide) dX9_setTimes_63 (st_wk_row cell i) ?_
        refine V_aload_n dX9_setTimes_64 rfl ?_
        refine VO_getf (C0 := RX9) (T := TX9) (N := 10) (ci := 8) (fs := wkF c (up (up κ 51 cell s) 52 cell i)) 2 2 iwX9 (by decide) w103 (Or.inl rfl) rfl (at_wk) rfl dX9_setTimes_65 ?_
        refine V_iload dX9_setTimes_68 rfl ?_
        refine V_iload dX9_setTimes_70 rfl ?_
        refine VO_iast 5 at_wk_column ⟨by omega, by omega⟩ (by decide) dX9_setTimes_72 (st_wk_column cell j) ?_
        refine V_aload_n dX9_setTimes_73 rfl ?_
        refine VO_getf (C0 := RX9) (T := TX9) (N := 10) (ci := 8) (fs := wkF c (up (up (up κ 51 cell s) 52 cell i) 53 cell j)) 2 6 iwX9 (by decide) w112 (Or.inl rfl) rfl (at_wk) rfl dX9_setTimes_74 ?_
        refine V_iload dX9_setTimes_77 rfl ?_
        refine V_iload dX9_setTimes_79 rfl ?_
        refine V_iload_n dX9_setTimes_81 rfl ?_
        refine V_imul dX9_setTimes_82 ?_
        refine V_iload dX9_setTimes_83 rfl ?_
        refine V_iload dX9_setTimes_85 rfl ?_
        refine V_imul dX9_setTimes_87 ?_
        refine V_iadd dX9_setTimes_88 ?_
        refine V_iload dX9_setTimes_89 rfl ?_
        refine V_iadd dX9_setTimes_91 ?_
        refine VO_iast 9 at_wk_time ⟨by omega, by omega⟩ (by decide) dX9_setTimes_92 (st_wk_time cell (((i * bw) + (j * cw)) + (P 10 s))) ?_
        refine V_iinc (L' := [some (.ref (c 2)), some (.ref (c 1)), some (.int (zI s)), some (.int (zI bw)), some (.int (zI cw)), some (.int (zI (P 10 s))), some (.int (zI (cell + 1))), some (.int (zI i)), some (.int (zI j))]) dX9_setTimes_93 (by decide) rfl rfl ?_
        refine V_iinc (L' := [some (.ref (c 2)), some (.ref (c 1)), some (.int (zI s)), some (.int (zI bw)), some (.int (zI cw)), some (.int (zI (P 10 s))), some (.int (zI (cell + 1))), some (.int (zI i)), some (.int (zI (j + 1)))]) dX9_setTimes_96 (by decide) rfl rfl ?_
        refine V_goto (tgt := 38) dX9_setTimes_99 (by decide) ?_
        refine ih_38 _ (by omega) (up (up (up (up κ 51 cell s) 52 cell i) 53 cell j) 57 cell (((i * bw) + (j * cw)) + (P 10 s))) (j + 1) (cell + 1) rfl ?_ ?_ ?_ ?_ ?_ ?_
        · exact ((((((((hC).up (by decide))).up (by decide))).up (by decide))).up (by decide))
        · omega
        · omega
        · omega
        · exact hT.step hcq.2.1 e2 e3 htm
        · exact ((((((((hF).upd (by decide))).upd (by decide))).upd (by decide))).upd (by decide))
    have seg_38 : ∀ (κ : St) (j : Int) (cell : Int), (CI P κ) → (i < P 0 0) → (0 ≤ j ∧ j ≤ P 0 1) → (cell = s * pt P + (i * P 0 1 + j)) → (TP P bw cw cell κ) → (fr [51, 52, 53, 57] κ0 κ) → V K sX9_setTimes 0 0 (fm (cO en c κ)) [some (.ref (c 2)), some (.ref (c 1)), some (.int (zI s)), some (.int (zI bw)), some (.int (zI cw)), some (.int (zI (P 10 s))), some (.int (zI cell)), some (.int (zI i)), some (.int (zI j))] [] 38 := fun κ j cell hC hii hj hc hT hF => loop_38 _ κ j cell rfl hC hii hj hc hT hF
    refine V_iload dX9_setTimes_26 rfl ?_
    refine V_aload_n dX9_setTimes_28 rfl ?_
    refine VO_getN (C0 := RX5) (T := TX5) (N := 4) (ci := 4) (fs := prF c κ) 1 1 iwX5 (by decide) hK wn74 rfl (at_pr) rfl dX9_setTimes_29 ?_
    refine V_eqT (y := zI (P 0 0)) (congrArg zI (congrFun ((hC).1 0 (by decide) (by decide)) _)) ?_
    refine V_icmp_ge (tgt := 108) dX9_setTimes_32 (by decide) ⟨⟨by omega, by omega⟩, ⟨by omega, by omega⟩⟩ (fun c_2 => ?_) (fun c_2 => ?_)
    · refine V_vret hR rfl (Nat.le_of_ble_eq_true rfl) (Nat.le_of_ble_eq_true rfl) dX9_setTimes_108 ?_
      have ei : i = P 0 0 := by omega
      have e : cell = (s + 1) * pt P := by rw [hc, ei, Int.add_mul, Int.one_mul]; rfl
      rw [e] at hT
      exact ⟨κ, rfl, rfl, hC, hT, by rw [← hκ0]; exact hF⟩
    · refine V_iconst dX9_setTimes_35 ?_
      refine V_istore (L' := [some (.ref (c 2)), some (.ref (c 1)), some (.int (zI s)), some (.int (zI bw)), some (.int (zI cw)), some (.int (zI (P 10 s))), some (.int (zI cell)), some (.int (zI i)), some (.int (zI 0))]) dX9_setTimes_36 (by decide) rfl ?_
      refine seg_38 κ 0 cell ?_ ?_ ?_ ?_ ?_ ?_
      · exact hC
      · omega
      · omega
      · omega
      · exact hT
      · exact hF
  have seg_26 : ∀ (κ : St) (i : Int) (cell : Int), (CI P κ) → (0 ≤ i ∧ i ≤ P 0 0) → (cell = s * pt P + i * P 0 1) → (TP P bw cw cell κ) → (fr [51, 52, 53, 57] κ0 κ) → V K sX9_setTimes 0 0 (fm (cO en c κ)) [some (.ref (c 2)), some (.ref (c 1)), some (.int (zI s)), some (.int (zI bw)), some (.int (zI cw)), some (.int (zI (P 10 s))), some (.int (zI cell)), some (.int (zI i)), none] [] 26 := fun κ i cell hC hi hc hT hF => loop_26 _ κ i cell rfl hC hi hc hT hF
  refine V_aload_n dX9_setTimes_0 rfl ?_
  refine VO_getN (C0 := RX5) (T := TX5) (N := 4) (ci := 4) (fs := prF c κ) 1 0 iwX5 (by decide) hK wn70 rfl (at_pr) rfl dX9_setTimes_1 ?_
  show V K sX9_setTimes 0 0 (fm (cO en c κ)) [some (.ref (c 2)), some (.ref (c 1)), some (.int (zI s)), some (.int (zI bw)), some (.int (zI cw)), none, none, none, none] [.ref (c (35 + 8 * Int.toNat 4))] 4
  refine V_iload_n dX9_setTimes_4 rfl ?_
  refine VO_callVF (As := [.int (zI s)]) (b := c (35 + 8 * Int.toNat 4)) (i := 35 + 8 * Int.toNat 4) (ci := 0) (fs := alF en c κ 4) (T := TJx4a65c) (N := 3) (at_al (CI.w4 _)) rfl hK (k_get4 en c κ s P ⟨hM, hC, by first | assumption | omega | exact ⟨by omega, by omega⟩ | exact ⟨⟨by omega, by omega⟩, by omega, by omega⟩ | exact ⟨⟨by omega, by omega⟩, ⟨by omega, by omega⟩⟩ | exact ⟨⟨by omega, by omega⟩, ⟨by omega, by omega⟩, by omega, by omega⟩⟩) mokJx4a65c_get_915e3 w326 w274 w275 ⟨Nat.le_of_ble_eq_true rfl, Nat.le_of_ble_eq_true rfl⟩ rfl (Nat.le_of_ble_eq_true rfl) ⟨Nat.le_of_ble_eq_true rfl, Nat.le_of_ble_eq_true rfl⟩ dX9_setTimes_5 (fun v w p_3 => ?_)
  obtain ⟨rfl, rfl⟩ := p_3
  show V K sX9_setTimes 0 0 (fm (cO en c κ)) [some (.ref (c 2)), some (.ref (c 1)), some (.int (zI s)), some (.int (zI bw)), some (.int (zI cw)), none, none, none, none] [.ref (c (33 + 8 * Int.toNat s))] 8
  refine VO_castS (33 + 8 * Int.toNat s) (at_sm ((hC).sm hM (by omega))) rfl w327 dX9_setTimes_8 ?_
  refine VO_getN (C0 := RX7) (T := TX7) (N := 5) (ci := 6) (fs := smF c κ s) (33 + 8 * Int.toNat s) 3 iwX7 (by decide) hK wn624 rfl (at_sm ((hC).sm hM (by omega))) rfl dX9_setTimes_11 ?_
  refine V_eqT (y := zI (P 10 s)) (congrArg zI (congrFun ((hC).1 10 (by decide) (by decide)) _)) ?_
  refine V_istore (L' := [some (.ref (c 2)), some (.ref (c 1)), some (.int (zI s)), some (.int (zI bw)), some (.int (zI cw)), some (.int (zI (P 10 s))), none, none, none]) dX9_setTimes_14 (by decide) rfl ?_
  refine V_aload_n dX9_setTimes_16 rfl ?_
  refine V_iload_n dX9_setTimes_17 rfl ?_
  refine VO_callVF (As := [.int (zI s)]) (b := c 1) (i := 1) (ci := 4) (fs := prF c κ) (T := TX5) (N := 4) (at_pr) rfl hK (k_w5_firstCell en c κ s P ⟨hM, hC, by first | assumption | omega | exact ⟨by omega, by omega⟩ | exact ⟨⟨by omega, by omega⟩, by omega, by omega⟩ | exact ⟨⟨by omega, by omega⟩, ⟨by omega, by omega⟩⟩ | exact ⟨⟨by omega, by omega⟩, ⟨by omega, by omega⟩, by omega, by omega⟩⟩) mokX5_firstCell w328 w305 w306 ⟨Nat.le_of_ble_eq_true rfl, Nat.le_of_ble_eq_true rfl⟩ rfl (Nat.le_of_ble_eq_true rfl) ⟨Nat.le_of_ble_eq_true rfl, Nat.le_of_ble_eq_true rfl⟩ dX9_setTimes_18 (fun v w p_4 => ?_)
  obtain ⟨rfl, rfl⟩ := p_4
  show V K sX9_setTimes 0 0 (fm (cO en c κ)) [some (.ref (c 2)), some (.ref (c 1)), some (.int (zI s)), some (.int (zI bw)), some (.int (zI cw)), some (.int (zI (P 10 s))), none, none, none] [.int (zI (s * pt P))] 21
  refine V_istore (L' := [some (.ref (c 2)), some (.ref (c 1)), some (.int (zI s)), some (.int (zI bw)), some (.int (zI cw)), some (.int (zI (P 10 s))), some (.int (zI (s * pt P))), none, none]) dX9_setTimes_21 (by decide) rfl ?_
  refine V_iconst dX9_setTimes_23 ?_
  refine V_istore (L' := [some (.ref (c 2)), some (.ref (c 1)), some (.int (zI s)), some (.int (zI bw)), some (.int (zI cw)), some (.int (zI (P 10 s))), some (.int (zI (s * pt P))), some (.int (zI 0)), none]) dX9_setTimes_24 (by decide) rfl ?_
  refine seg_26 κ 0 (s * pt P) ?_ ?_ ?_ ?_ ?_
  · exact hC
  · omega
  · omega
  · exact hT
  · exact hF

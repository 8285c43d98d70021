/-! the law: the best schedule -/
def bO (b : Nat → Nat) (x y z : Nat) : Nat → Nat := fun i => if i = 0 then x else if i = 3 then y else if i = 4 then z else b i
def τO (τ : St) (O T Z : Int → Int) : St := fun k => if k = 0 then O else if k = 3 then T else if k = 4 then Z else τ k
theorem τO_fr {τ : St} {O T Z : Int → Int} : fr [0, 3, 4] τ (τO τ O T Z) := fun k hk => by
  unfold τO
  rw [if_neg (fun e => hk (by rw [e]; decide)), if_neg (fun e => hk (by rw [e]; decide)), if_neg (fun e => hk (by rw [e]; decide))]
theorem perm8 {α : Type} (g a d t e z y x : α) : [g, a, d, t, e, z, y, x].Perm [x, a, d, y, z, g, t, e] :=
  (List.perm_middle (l₁ := [g, a, d, t, e, z, y]) (l₂ := [])).trans (((List.perm_middle (l₁ := [g]) (l₂ := [d, t, e, z, y])).trans (((List.perm_middle (l₁ := [g]) (l₂ := [t, e, z, y])).trans (((List.perm_middle (l₁ := [g, t, e, z]) (l₂ := [])).trans ((List.perm_middle (l₁ := [g, t, e]) (l₂ := [])).cons y)).cons d)).cons a)).cons x)
section VBO
variable {K : KT} {S : SI} {k n : Nat} {b : Nat → Nat} {τ τ2 : St} {X : vWd} {L : List (Option Value)} {st : List Value} {pc : Nat} {x y z : Nat} {O T Z : Int → Int}
theorem V_toO (kk : V K S k n (lW (bO b x y z) (τO τ O T Z) ((b 0, iE 0 5 (τ 0)) :: (b 3, iE 0 64 (τ 3)) :: (b 4, iE 0 64 (τ 4)) :: X)) L st pc) : V K S k n (lW b τ ((z, iE 0 64 Z) :: (y, iE 0 64 T) :: (x, iE 0 5 O) :: X)) L st pc :=
  V_Perm ((perm8 (b 0, iE 0 5 (τ 0)) (b 1, iE 0 29 (τ 1)) (b 2, iE 0 16 (τ 2)) (b 3, iE 0 64 (τ 3)) (b 4, iE 0 64 (τ 4)) (z, iE 0 64 Z) (y, iE 0 64 T) (x, iE 0 5 O)).append_right X) kk
theorem V_unO (hf : fr [0, 3, 4] τ τ2) (kk : V K S k n (lW b τ X) L st pc) : V K S k n (lW (bO b x y z) τ2 ((b 0, iE 0 5 (τ 0)) :: (b 3, iE 0 64 (τ 3)) :: (b 4, iE 0 64 (τ 4)) :: X)) L st pc := by
  have e : lW (bO b x y z) τ2 ((b 0, iE 0 5 (τ 0)) :: (b 3, iE 0 64 (τ 3)) :: (b 4, iE 0 64 (τ 4)) :: X) = [(x, iE 0 5 (τ2 0)), (b 1, iE 0 29 (τ 1)), (b 2, iE 0 16 (τ 2)), (y, iE 0 64 (τ2 3)), (z, iE 0 64 (τ2 4)), (b 0, iE 0 5 (τ 0)), (b 3, iE 0 64 (τ 3)), (b 4, iE 0 64 (τ 4))] ++ X := by
    rw [← hf 1 (by decide), ← hf 2 (by decide)]; rfl
  rw [e]
  refine V_Perm ((perm8 (b 0, iE 0 5 (τ 0)) (b 1, iE 0 29 (τ 1)) (b 2, iE 0 16 (τ 2)) (b 3, iE 0 64 (τ 3)) (b 4, iE 0 64 (τ 4)) (z, iE 0 64 (τ2 4)) (y, iE 0 64 (τ2 3)) (x, iE 0 5 (τ2 0))).append_right X).symm ?_
  refine V_Sub (ws' := lW b τ X) ?_ kk
  exact (((((((((List.Sublist.refl X).cons (x, iE 0 5 (τ2 0))).cons (y, iE 0 64 (τ2 3))).cons (z, iE 0 64 (τ2 4))).cons₂ _).cons₂ _).cons₂ _).cons₂ _).cons₂ _)
end VBO
theorem LR.sched {P τ τ2 : St} (h : LR P τ) {v w : Int} (h1 : τ2 1 = τ 1) (h2 : τ2 2 = τ 2) (g0 : τ2 0 0 = P 0 0) (g1 : τ2 0 1 = P 0 1) (g2 : τ2 0 2 = P 0 2) (g3 : τ2 0 3 = v) (g4 : τ2 0 4 = w) : LR (up (up P 0 11 v) 0 12 w) τ2 := by
  obtain ⟨a, b, c, d⟩ := h
  exact ⟨⟨g0, g1, g2, g3, g4⟩, b, by rw [h1]; exact c, by rw [h2]; exact d⟩
/-- the best of the first k schedules, as the law keeps it -/
def LB (P : St) (k best wt : Int) : Prop := (best = -1000 ∧ wt = -1000 ∧ IsBest P k (-1) 0 0) ∨ (0 ≤ best ∧ best ≤ 1000 ∧ (0 ≤ wt ∧ wt < 16) ∧ IsBest P k best (wt / 4) (wt % 4))
theorem LB.b {P : St} {k best wt : Int} (h : LB P k best wt) : -1000 ≤ best ∧ best ≤ 1000 ∧ -1000 ≤ wt ∧ wt < 16 := by
  rcases h with ⟨a, b, -⟩ | ⟨a, b, c, -⟩ <;> omega
theorem LB.no {P : St} {k best wt : Int} (h : LB P k best wt) (hk : 0 ≤ k) (ha : ¬ alw P (k / 4) (k % 4)) : LB P (k + 1) best wt := by
  rcases h with ⟨a, b, c⟩ | ⟨a, b, c, d⟩
  · exact Or.inl ⟨a, b, c.no hk ha⟩
  · exact Or.inr ⟨a, b, c, d.no hk ha⟩
theorem LB.step {P : St} {k best wt sum b9 w2 : Int} (h : LB P k best wt) (hk : 0 ≤ k) (hk2 : k < 16) (ha : alw P (k / 4) (k % 4)) (hs : sum = smv (lr P (k / 4) (k % 4)) (P 0 2)) (hs0 : 0 ≤ sum ∧ sum ≤ 1000) (hv1 : best < 0 ∨ sum < best → b9 = sum) (hv2 : ¬ (best < 0 ∨ sum < best) → b9 = best) (hw1 : best < 0 ∨ sum < best → w2 = k) (hw2 : ¬ (best < 0 ∨ sum < best) → w2 = wt) : LB P (k + 1) b9 w2 := by
  by_cases q : best < 0 ∨ sum < best
  · rw [hv1 q, hw1 q]
    refine Or.inr ⟨hs0.1, hs0.2, ⟨hk, hk2⟩, ?_⟩
    rw [hs] at hs0 q ⊢
    rcases h with ⟨a, b, c⟩ | ⟨a, b, c, d⟩
    · exact c.new hk ha hs0.1 (Or.inl (by decide))
    · exact d.new hk ha hs0.1 q
  · rw [hv2 q, hw2 q]
    rcases h with ⟨a, b, c⟩ | ⟨a, b, c, d⟩
    · omega
    · exact Or.inr ⟨a, b, c, d.worse hk a (by rw [← hs]; omega)⟩
theorem gc_P {c : Prop} {k a : Int} {P : St} {sp : SP} (h : sp = gc c k P (0, a, P)) : sp.2.2 = P := by
  rw [h]
  by_cases q : c
  · rw [gc_t q]
  · rw [gc_f q]
theorem lb_yes {P : St} {best wt : Int} (h : LB P 16 best wt) (hb : 0 ≤ best) : hasB P ∧ best = bsB P ∧ wt / 4 = bsR P ∧ wt % 4 = bsC P := by
  rcases h with ⟨a, -, -⟩ | ⟨a, -, -, d⟩
  · omega
  · exact ⟨(hasB_iff d).mpr a, bs_eq d a⟩
theorem lb_no {P : St} {best wt : Int} (h : LB P 16 best wt) (hb : best < 0) : ¬ hasB P ∧ best = -1000 := by
  rcases h with ⟨a, -, c⟩ | ⟨a, -, -, -⟩
  · exact ⟨fun q => absurd ((hasB_iff c).mp q) (by decide), a⟩
  · omega
theorem lb_wt {P : St} {best wt : Int} (h : LB P 16 best wt) (hb : 0 ≤ best) : 0 ≤ wt ∧ wt < 16 := by
  rcases h with ⟨a, -, c⟩ | ⟨a, -, b, -⟩
  · omega
  · exact b
theorem lb_room {P : St} {best wt : Int} (h : LB P 16 best wt) : dvl (-1000) 0 0 (sp_bestRoom P) = best := by
  by_cases hb : best < 0
  · have := lb_no h hb
    rw [dvl_1 (by unfold sp_bestRoom; rw [gc_f this.1]), this.2]
  · have := lb_yes h (by omega)
    have e : sp_bestRoom P = (0, bsB P, P) := gc_t this.1
    rw [dvl_0 (by rw [e]), e]
    exact this.2.1.symm
theorem lb_row {P : St} {best wt : Int} (h : LB P 16 best wt) (hb : 0 ≤ best) : dvl (-1000) 0 0 (sp_bestRowWeight P) = wt / 4 := by
  have := lb_yes h hb
  have e : sp_bestRowWeight P = (0, bsR P, P) := gc_t this.1
  rw [dvl_0 (by rw [e]), e]
  exact this.2.2.1.symm
theorem lb_col {P : St} {best wt : Int} (h : LB P 16 best wt) (hb : 0 ≤ best) : dvl (-1000) 0 0 (sp_bestColumnWeight P) = wt % 4 := by
  have := lb_yes h hb
  have e : sp_bestColumnWeight P = (0, bsC P, P) := gc_t this.1
  rw [dvl_0 (by rw [e]), e]
  exact this.2.2.2.symm
theorem lb_none {P : St} {best wt : Int} (h : LB P 16 best wt) (hb : best < 0) : dvl (-1000) 0 0 (sp_bestRowWeight P) = -1000 ∧ dvl (-1000) 0 0 (sp_bestColumnWeight P) = -1000 := by
  have := lb_no h hb
  exact ⟨dvl_1 (by unfold sp_bestRowWeight; rw [gc_f this.1]), dvl_1 (by unfold sp_bestColumnWeight; rw [gc_f this.1])⟩
set_option maxRecDepth 100000 in
set_option maxHeartbeats 4000000 in
theorem q_isBest (en c b : Nat → Nat) (κ τ : St) (Y : vWd) (P : St) (hp : MI P ∧ LR P τ ∧ CWP P κ) : MC (EX en) yL_isBest tL_isBest [.ref (c 0), .ref (b 0), .ref (b 1), .ref (b 2)] (lW b τ (Y ++ fm (cO en c κ))) (fun v w => ∃ (κ2 : St), v = some (.int (zI (bz true))) ∧ w = (lW b τ (Y ++ fm (cO en c κ2))) ∧ (CWP P κ2)) := by
  refine MC.of (EX.stb en) [some (.ref (c 0)), some (.ref (b 0)), some (.ref (b 1)), some (.ref (b 2)), none, none, none, none, none, none, none, none] 8 rfl rfl rfl (by simp [Value.category]) (Nat.le_of_ble_eq_true rfl) (fun K hK hR => ?_)
  obtain ⟨hM, hL, hC⟩ := hp
  have mR := hM.1
  have mC := hM.2.1
  have mN := hM.2.2.1
  have mp := hM.pts
  have ma := hM.als
  have mV := hM.2.2.2.1
  have mW := hM.2.2.2.2.1
  have hsm := hL.small hM
  have seg_17 : ∀ (b2 : Nat → Nat) (qo : Nat) (qt : Nat) (qz : Nat) (g0 : Nat) (t0 : Nat) (e0 : Nat) (τ2 : St), (b2 = bO b qo qt qz) → (g0 = b 0) → (t0 = b 3) → (e0 = b 4) → (fr [0, 3, 4] τ τ2) → V K tL_isBest 3 133 (lW b2 τ2 ((g0, iE 0 5 (τ 0)) :: ((t0, iE 0 64 (τ 3)) :: ((e0, iE 0 64 (τ 4)) :: (Y ++ fm (cO en c κ)))))) [some (.ref (c 0)), some (.ref g0), some (.ref (b2 1)), some (.ref (b2 2)), some (.ref (b2 0)), some (.ref (b2 3)), some (.ref (b2 4)), none, none, none, none, none] [] 17 := by
    intro b2 qo qt qz g0 t0 e0 τ2 hb2 hg0 ht0 he0 hf
    have loop_54 : ∀ (n0 : Nat) (k : Int) (best : Int) (wt : Int) (τ4 : St), (16 - k).toNat = n0 → (0 ≤ k ∧ k ≤ 16) → (fr [0, 3, 4] τ τ4) → (τ4 0 0 = P 0 0) → (τ4 0 1 = P 0 1) → (τ4 0 2 = P 0 2) → (LB P k best wt) → V K tL_isBest 3 133 (lW b2 τ4 ((g0, iE 0 5 (τ 0)) :: ((t0, iE 0 64 (τ 3)) :: ((e0, iE 0 64 (τ 4)) :: (Y ++ fm (cO en c κ)))))) [some (.ref (c 0)), some (.ref g0), some (.ref (b2 1)), some (.ref (b2 2)), some (.ref (b2 0)), some (.ref (b2 3)), some (.ref (b2 4)), some (.int (zI best)), some (.int (zI wt)), some (.int (zI k)), none, none] [] 54 := by
      intro n0
      induction n0 using Nat.strongRecOn with
      | _ n0 ih_54 =>
      intro k best wt τ4 hm_54 hk hf h00 h01 h02 hB
      have hMk : MI (up (up P 0 11 (k / 4)) 0 12 (k % 4)) := hM.sched ⟨by omega, by omega⟩ ⟨by omega, by omega⟩
      have loop_114 : ∀ (n0 : Nat) (s : Int) (sum : Int) (τ6 : St), (P 0 2 - s).toNat = n0 → (k < 16) → (alw P (k / 4) (k % 4)) → (0 ≤ s ∧ s ≤ P 0 2) → (sum = smv (lr P (k / 4) (k % 4)) s) → (fr [0, 3, 4] τ τ6) → (τ6 0 0 = P 0 0) → (τ6 0 1 = P 0 1) → (τ6 0 2 = P 0 2) → (LR (up (up P 0 11 (k / 4)) 0 12 (k % 4)) τ6) → (LT (up (up P 0 11 (k / 4)) 0 12 (k % 4)) τ6) → (LE (up (up P 0 11 (k / 4)) 0 12 (k % 4)) τ6) → V K tL_isBest 3 133 (lW b2 τ6 ((g0, iE 0 5 (τ 0)) :: ((t0, iE 0 64 (τ 3)) :: ((e0, iE 0 64 (τ 4)) :: (Y ++ fm (cO en c κ)))))) [some (.ref (c 0)), some (.ref g0), some (.ref (b2 1)), some (.ref (b2 2)), some (.ref (b2 0)), some (.ref (b2 3)), some (.ref (b2 4)), some (.int (zI best)), some (.int (zI wt)), some (.int (zI k)), some (.int (zI sum)), some (.int (zI s))] [] 114 := by
        intro n0
        induction n0 using Nat.strongRecOn with
        | _ n0 ih_114 =>
        intro s sum τ6 hm_114 hk16 hal hs hsum hf h00 h01 h02 hL6 hT6 hE6
        have seg_163 : ∀ (w2 : Int), (P 0 2 ≤ s) → (best < 0 ∨ sum < best → w2 = k) → (¬ (best < 0 ∨ sum < best) → w2 = wt) → V K tL_isBest 3 133 (lW b2 τ6 ((g0, iE 0 5 (τ 0)) :: ((t0, iE 0 64 (τ 3)) :: ((e0, iE 0 64 (τ 4)) :: (Y ++ fm (cO en c κ)))))) [some (.ref (c 0)), some (.ref g0), some (.ref (b2 1)), some (.ref (b2 2)), some (.ref (b2 0)), some (.ref (b2 3)), some (.ref (b2 4)), some (.int (zI best)), none, some (.int (zI k)), some (.int (zI sum)), none] [.int (zI w2)] 163 := by
          intro w2 hs2 hw1 hw2
          have seg_184 : ∀ (b9 : Int), (best < 0 ∨ sum < best → b9 = sum) → (¬ (best < 0 ∨ sum < best) → b9 = best) → V K tL_isBest 3 133 (lW b2 τ6 ((g0, iE 0 5 (τ 0)) :: ((t0, iE 0 64 (τ 3)) :: ((e0, iE 0 64 (τ 4)) :: (Y ++ fm (cO en c κ)))))) [some (.ref (c 0)), some (.ref g0), some (.ref (b2 1)), some (.ref (b2 2)), some (.ref (b2 0)), some (.ref (b2 3)), some (.ref (b2 4)), none, some (.int (zI w2)), some (.int (zI k)), none, none] [.int (zI b9)] 184 := by
            intro b9 hv1 hv2
            refine V_istore (L' := [some (.ref (c 0)), some (.ref g0), some (.ref (b2 1)), some (.ref (b2 2)), some (.ref (b2 0)), some (.ref (b2 3)), some (.ref (b2 4)), some (.int (zI b9)), some (.int (zI w2)), some (.int (zI k)), none, none]) dL_isBest_184 (by decide) rfl ?_
            refine V_iinc (L' := [some (.ref (c 0)), some (.ref g0), some (.ref (b2 1)), some (.ref (b2 2)), some (.ref (b2 0)), some (.ref (b2 3)), some (.ref (b2 4)), some (.int (zI b9)), some (.int (zI w2)), some (.int (zI (k + 1))), none, none]) dL_isBest_186 (by decide) rfl rfl ?_
            refine V_goto (tgt := 54) dL_isBest_189 (by decide) ?_
            refine ih_54 _ (by omega) (k + 1) b9 w2 τ6 rfl ?_ ?_ ?_ ?_ ?_ ?_
            · omega
            · exact hf
            · exact h00
            · exact h01
            · exact h02
            · exact hB.step hk.1 hk16 hal (by rw [← show s = P 0 2 by omega]; exact hsum) (by have := smv_b (f := lr P (k / 4) (k % 4)) (B := 64) s hs.1 (fun j a b3 => by have := lr_b hM (k / 4) (k % 4) j; omega); rw [← hsum] at this; omega) hv1 hv2 hw1 hw2
          have hsb := smv_b (f := lr P (k / 4) (k % 4)) (B := 64) s hs.1 (fun j a b3 => by have := lr_b hM (k / 4) (k % 4) j; omega)
          rw [← hsum] at hsb
          have hbb := hB.b
          refine V_istore (L' := [some (.ref (c 0)), some (.ref g0), some (.ref (b2 1)), some (.ref (b2 2)), some (.ref (b2 0)), some (.ref (b2 3)), some (.ref (b2 4)), some (.int (zI best)), some (.int (zI w2)), some (.int (zI k)), some (.int (zI sum)), none]) dL_isBest_163 (by decide) rfl ?_
          refine V_iload dL_isBest_165 rfl ?_
          refine V_if_lt (tgt := 177) dL_isBest_167 (by decide) ⟨by omega, by omega⟩ (fun c_1 => ?_) (fun c_1 => ?_)
          · refine V_iload dL_isBest_177 rfl ?_
            refine V_goto (tgt := 184) dL_isBest_179 (by decide) ?_
            refine V_mask (L' := [some (.ref (c 0)), some (.ref g0), some (.ref (b2 1)), some (.ref (b2 2)), some (.ref (b2 0)), some (.ref (b2 3)), some (.ref (b2 4)), none, some (.int (zI w2)), some (.int (zI k)), none, none]) [true, true, true, true, true, true, true, false, true, true, false, false] rfl ?_
            refine seg_184 sum ?_ ?_
            · omega
            · omega
          · refine V_iload dL_isBest_170 rfl ?_
            refine V_iload dL_isBest_172 rfl ?_
            refine V_icmp_ge (tgt := 182) dL_isBest_174 (by decide) ⟨⟨by omega, by omega⟩, ⟨by omega, by omega⟩⟩ (fun c_2 => ?_) (fun c_2 => ?_)
            · refine V_iload dL_isBest_182 rfl ?_
              refine V_mask (L' := [some (.ref (c 0)), some (.ref g0), some (.ref (b2 1)), some (.ref (b2 2)), some (.ref (b2 0)), some (.ref (b2 3)), some (.ref (b2 4)), none, some (.int (zI w2)), some (.int (zI k)), none, none]) [true, true, true, true, true, true, true, false, true, true, false, false] rfl ?_
              refine seg_184 best ?_ ?_
              · omega
              · omega
            · refine V_iload dL_isBest_177 rfl ?_
              refine V_goto (tgt := 184) dL_isBest_179 (by decide) ?_
              refine V_mask (L' := [some (.ref (c 0)), some (.ref g0), some (.ref (b2 1)), some (.ref (b2 2)), some (.ref (b2 0)), some (.ref (b2 3)), some (.ref (b2 4)), none, some (.int (zI w2)), some (.int (zI k)), none, none]) [true, true, true, true, true, true, true, false, true, true, false, false] rfl ?_
              refine seg_184 sum ?_ ?_
              · omega
              · omega
        refine V_iload dL_isBest_114 rfl ?_
        refine V_aload_n dL_isBest_116 rfl ?_
        refine V_iconst dL_isBest_117 ?_
        refine V_iald (N := 5) (f := (τ 0)) 5 rfl ⟨by omega, by omega⟩ (by decide) dL_isBest_118 ?_
        refine V_eqT (y := zI (P 0 2)) (congrArg zI hL.g2) ?_
        refine V_icmp_ge (tgt := 144) dL_isBest_119 (by decide) ⟨⟨by omega, by omega⟩, ⟨by omega, by omega⟩⟩ (fun c_3 => ?_) (fun c_3 => ?_)
        · have hsb := smv_b (f := lr P (k / 4) (k % 4)) (B := 64) s hs.1 (fun j a b3 => by have := lr_b hM (k / 4) (k % 4) j; omega)
          rw [← hsum] at hsb
          have hbb := hB.b
          refine V_iload dL_isBest_144 rfl ?_
          refine V_if_lt (tgt := 156) dL_isBest_146 (by decide) ⟨by omega, by omega⟩ (fun c_4 => ?_) (fun c_4 => ?_)
          · refine V_iload dL_isBest_156 rfl ?_
            refine V_goto (tgt := 163) dL_isBest_158 (by decide) ?_
            refine V_mask (L' := [some (.ref (c 0)), some (.ref g0), some (.ref (b2 1)), some (.ref (b2 2)), some (.ref (b2 0)), some (.ref (b2 3)), some (.ref (b2 4)), some (.int (zI best)), none, some (.int (zI k)), some (.int (zI sum)), none]) [true, true, true, true, true, true, true, true, false, true, true, false] rfl ?_
            refine seg_163 k ?_ ?_ ?_
            · omega
            · omega
            · omega
          · refine V_iload dL_isBest_149 rfl ?_
            refine V_iload dL_isBest_151 rfl ?_
            refine V_icmp_ge (tgt := 161) dL_isBest_153 (by decide) ⟨⟨by omega, by omega⟩, ⟨by omega, by omega⟩⟩ (fun c_5 => ?_) (fun c_5 => ?_)
            · refine V_iload dL_isBest_161 rfl ?_
              refine V_mask (L' := [some (.ref (c 0)), some (.ref g0), some (.ref (b2 1)), some (.ref (b2 2)), some (.ref (b2 0)), some (.ref (b2 3)), some (.ref (b2 4)), some (.int (zI best)), none, some (.int (zI k)), some (.int (zI sum)), none]) [true, true, true, true, true, true, true, true, false, true, true, false] rfl ?_
              refine seg_163 wt ?_ ?_ ?_
              · omega
              · omega
              · omega
            · refine V_iload dL_isBest_156 rfl ?_
              refine V_goto (tgt := 163) dL_isBest_158 (by decide) ?_
              refine V_mask (L' := [some (.ref (c 0)), some (.ref g0), some (.ref (b2 1)), some (.ref (b2 2)), some (.ref (b2 0)), some (.ref (b2 3)), some (.ref (b2 4)), some (.int (zI best)), none, some (.int (zI k)), some (.int (zI sum)), none]) [true, true, true, true, true, true, true, true, false, true, true, false] rfl ?_
              refine seg_163 k ?_ ?_ ?_
              · omega
              · omega
              · omega
        · refine V_iload dL_isBest_122 rfl ?_
          refine V_aload dL_isBest_124 rfl ?_
          refine V_aload dL_isBest_126 rfl ?_
          refine V_aload dL_isBest_128 rfl ?_
          refine V_iload dL_isBest_130 rfl ?_
          refine V_callSF (As := [.ref (b2 0), .ref (b2 3), .ref (b2 4), .int (zI s)]) hK (q_rest (EX.stb en) b2 τ6 ((g0, iE 0 5 (τ 0)) :: ((t0, iE 0 64 (τ 3)) :: ((e0, iE 0 64 (τ 4)) :: (Y ++ fm (cO en c κ))))) s (up (up P 0 11 (k / 4)) 0 12 (k % 4)) ⟨hMk, hL6, hT6, hE6, hs.1, by show s < P 0 2; omega⟩) mokL_rest w948 w949 ⟨Nat.le_of_ble_eq_true rfl, Nat.le_of_ble_eq_true rfl⟩ rfl (Nat.le_of_ble_eq_true rfl) ⟨(by show 3 + 0 + 0 ≤ 100; omega), (by show 133 + 0 + 0 ≤ 1000; omega)⟩ dL_isBest_132 (fun v w p_6 => ?_)
          obtain ⟨rfl, rfl⟩ := p_6
          show V K tL_isBest 3 133 (lW b2 τ6 ((g0, iE 0 5 (τ 0)) :: ((t0, iE 0 64 (τ 3)) :: ((e0, iE 0 64 (τ 4)) :: (Y ++ fm (cO en c κ)))))) _ [.int (zI (lr (up (up P 0 11 (k / 4)) 0 12 (k % 4)) ((up (up P 0 11 (k / 4)) 0 12 (k % 4)) 0 11) ((up (up P 0 11 (k / 4)) 0 12 (k % 4)) 0 12) s)), .int (zI sum)] 135
          refine V_eqT (y := zI (lr P (k / 4) (k % 4) s)) (rfl) ?_
          refine V_iadd dL_isBest_135 ?_
          refine V_istore (L' := [some (.ref (c 0)), some (.ref g0), some (.ref (b2 1)), some (.ref (b2 2)), some (.ref (b2 0)), some (.ref (b2 3)), some (.ref (b2 4)), some (.int (zI best)), some (.int (zI wt)), some (.int (zI k)), some (.int (zI (sum + (lr P (k / 4) (k % 4) s)))), some (.int (zI s))]) dL_isBest_136 (by decide) rfl ?_
          refine V_iinc (L' := [some (.ref (c 0)), some (.ref g0), some (.ref (b2 1)), some (.ref (b2 2)), some (.ref (b2 0)), some (.ref (b2 3)), some (.ref (b2 4)), some (.int (zI best)), some (.int (zI wt)), some (.int (zI k)), some (.int (zI (sum + (lr P (k / 4) (k % 4) s)))), some (.int (zI (s + 1)))]) dL_isBest_138 (by decide) rfl rfl ?_
          refine V_goto (tgt := 114) dL_isBest_141 (by decide) ?_
          refine ih_114 _ (by omega) (s + 1) (sum + (lr P (k / 4) (k % 4) s)) τ6 rfl ?_ ?_ ?_ ?_ ?_ ?_ ?_ ?_ ?_ ?_ ?_
          · omega
          · exact hal
          · omega
          · rw [smv_s _ hs.1, ← hsum]
          · exact hf
          · exact h00
          · exact h01
          · exact h02
          · exact hL6
          · exact hT6
          · exact hE6
      have seg_114 : ∀ (s : Int) (sum : Int) (τ6 : St), (k < 16) → (alw P (k / 4) (k % 4)) → (0 ≤ s ∧ s ≤ P 0 2) → (sum = smv (lr P (k / 4) (k % 4)) s) → (fr [0, 3, 4] τ τ6) → (τ6 0 0 = P 0 0) → (τ6 0 1 = P 0 1) → (τ6 0 2 = P 0 2) → (LR (up (up P 0 11 (k / 4)) 0 12 (k % 4)) τ6) → (LT (up (up P 0 11 (k / 4)) 0 12 (k % 4)) τ6) → (LE (up (up P 0 11 (k / 4)) 0 12 (k % 4)) τ6) → V K tL_isBest 3 133 (lW b2 τ6 ((g0, iE 0 5 (τ 0)) :: ((t0, iE 0 64 (τ 3)) :: ((e0, iE 0 64 (τ 4)) :: (Y ++ fm (cO en c κ)))))) [some (.ref (c 0)), some (.ref g0), some (.ref (b2 1)), some (.ref (b2 2)), some (.ref (b2 0)), some (.ref (b2 3)), some (.ref (b2 4)), some (.int (zI best)), some (.int (zI wt)), some (.int (zI k)), some (.int (zI sum)), some (.int (zI s))] [] 114 := fun s sum τ6 hk16 hal hs hsum hf h00 h01 h02 hL6 hT6 hE6 => loop_114 _ s sum τ6 rfl hk16 hal hs hsum hf h00 h01 h02 hL6 hT6 hE6
      refine V_iload dL_isBest_54 rfl ?_
      refine V_bipush dL_isBest_56 (by decide) ?_
      refine V_icmp_ge (tgt := 192) dL_isBest_58 (by decide) ⟨⟨by omega, by omega⟩, ⟨by omega, by omega⟩⟩ (fun c_7 => ?_) (fun c_7 => ?_)
      · have hB16 : LB P 16 best wt := by rw [← show k = 16 by omega]; exact hB
        have hbb := hB.b
        have hr1 := lb_room hB16
        have hr2 := fun h => lb_row hB16 h
        have hr3 := fun h => lb_col hB16 h
        have hr4 := lb_none hB16
        refine V_aload_n dL_isBest_192 rfl ?_
        refine V_bipush dL_isBest_193 (by decide) ?_
        refine V_iconst dL_isBest_195 ?_
        refine V_iconst dL_isBest_196 ?_
        refine V_iconst dL_isBest_197 ?_
        refine V_iconst dL_isBest_198 ?_
        refine V_iconst dL_isBest_199 ?_
        refine V_callSBH (As := [.ref (c 0), .int (zI 10), .int (zI 0), .int (zI 0), .int (zI 0), .int (zI 0), .int (zI 0)]) (wr := (lW b2 τ4 ((g0, iE 0 5 (τ 0)) :: ((t0, iE 0 64 (τ 3)) :: ((e0, iE 0 64 (τ 4)) :: Y))))) (wc := fm (cO en c κ)) rfl hK (d_10 en c κ 0 0 0 0 0 P ⟨hM, hC⟩) mokL_does w507 w508 ⟨Nat.le_of_ble_eq_true rfl, Nat.le_of_ble_eq_true rfl⟩ rfl (Nat.le_of_ble_eq_true rfl) ⟨(by show 3 + 0 + 8 ≤ 100; omega), (by show 133 + 0 + 50 ≤ 1000; omega)⟩ dL_isBest_200 (fun v w p_8 => ?_)
        obtain ⟨κ_9, rfl, rfl, q_10⟩ := p_8
        rw [(show (sp_bestRoom P).2.2 = P from gc_P rfl)] at q_10
        show V K tL_isBest (3 + 8) (133 + 50) (lW b2 τ4 ((g0, iE 0 5 (τ 0)) :: ((t0, iE 0 64 (τ 3)) :: ((e0, iE 0 64 (τ 4)) :: (Y ++ fm (cO en c κ_9)))))) _ [.int (zI (dvl (-1000) 0 0 (sp_bestRoom P)))] 203
        refine V_iload dL_isBest_203 rfl ?_
        refine V_icmp_ne (tgt := 270) dL_isBest_205 (by decide) ⟨by rw [hr1]; exact ⟨by omega, by omega⟩, ⟨by omega, by omega⟩⟩ (fun c_13 => absurd (hr1) c_13) (fun _ => ?_)
        refine V_aload_n dL_isBest_208 rfl ?_
        refine V_bipush dL_isBest_209 (by decide) ?_
        refine V_iconst dL_isBest_211 ?_
        refine V_iconst dL_isBest_212 ?_
        refine V_iconst dL_isBest_213 ?_
        refine V_iconst dL_isBest_214 ?_
        refine V_iconst dL_isBest_215 ?_
        refine V_callSBH (As := [.ref (c 0), .int (zI 11), .int (zI 0), .int (zI 0), .int (zI 0), .int (zI 0), .int (zI 0)]) (wr := (lW b2 τ4 ((g0, iE 0 5 (τ 0)) :: ((t0, iE 0 64 (τ 3)) :: ((e0, iE 0 64 (τ 4)) :: Y))))) (wc := fm (cO en c κ_9)) rfl hK (d_11 en c κ_9 0 0 0 0 0 P ⟨hM, q_10⟩) mokL_does w507 w508 ⟨Nat.le_of_ble_eq_true rfl, Nat.le_of_ble_eq_true rfl⟩ rfl (Nat.le_of_ble_eq_true rfl) ⟨(by show 3 + 8 + 8 ≤ 100; omega), (by show 133 + 50 + 50 ≤ 1000; omega)⟩ dL_isBest_216 (fun v w p_14 => ?_)
        obtain ⟨κ_15, rfl, rfl, q_16⟩ := p_14
        rw [(show (sp_bestRowWeight P).2.2 = P from gc_P rfl)] at q_16
        show V K tL_isBest (3 + 16) (133 + 100) (lW b2 τ4 ((g0, iE 0 5 (τ 0)) :: ((t0, iE 0 64 (τ 3)) :: ((e0, iE 0 64 (τ 4)) :: (Y ++ fm (cO en c κ_15)))))) _ [.int (zI (dvl (-1000) 0 0 (sp_bestRowWeight P)))] 219
        refine V_iload dL_isBest_219 rfl ?_
        refine V_if_ge (tgt := 230) dL_isBest_221 (by decide) ⟨by omega, by omega⟩ (fun c_19 => ?_) (fun c_19 => ?_)
        · have hwt := lb_wt hB16 c_19
          refine V_iload dL_isBest_230 rfl ?_
          refine V_iconst dL_isBest_232 ?_
          refine V_idiv dL_isBest_233 ⟨⟨by omega, by omega⟩, ⟨by omega, by omega⟩, by omega, by omega⟩ ?_
          refine V_icmp_ne (tgt := 270) dL_isBest_234 (by decide) ⟨by rw [hr2 c_19]; exact ⟨by omega, by omega⟩, ⟨by omega, by omega⟩⟩ (fun c_20 => absurd (hr2 c_19) c_20) (fun _ => ?_)
          refine V_aload_n dL_isBest_237 rfl ?_
          refine V_bipush dL_isBest_238 (by decide) ?_
          refine V_iconst dL_isBest_240 ?_
          refine V_iconst dL_isBest_241 ?_
          refine V_iconst dL_isBest_242 ?_
          refine V_iconst dL_isBest_243 ?_
          refine V_iconst dL_isBest_244 ?_
          refine V_callSBH (As := [.ref (c 0), .int (zI 12), .int (zI 0), .int (zI 0), .int (zI 0), .int (zI 0), .int (zI 0)]) (wr := (lW b2 τ4 ((g0, iE 0 5 (τ 0)) :: ((t0, iE 0 64 (τ 3)) :: ((e0, iE 0 64 (τ 4)) :: Y))))) (wc := fm (cO en c κ_15)) rfl hK (d_12 en c κ_15 0 0 0 0 0 P ⟨hM, q_16⟩) mokL_does w507 w508 ⟨Nat.le_of_ble_eq_true rfl, Nat.le_of_ble_eq_true rfl⟩ rfl (Nat.le_of_ble_eq_true rfl) ⟨(by show 3 + 16 + 8 ≤ 100; omega), (by show 133 + 100 + 50 ≤ 1000; omega)⟩ dL_isBest_245 (fun v w p_21 => ?_)
          obtain ⟨κ_22, rfl, rfl, q_23⟩ := p_21
          rw [(show (sp_bestColumnWeight P).2.2 = P from gc_P rfl)] at q_23
          show V K tL_isBest (3 + 24) (133 + 150) (lW b2 τ4 ((g0, iE 0 5 (τ 0)) :: ((t0, iE 0 64 (τ 3)) :: ((e0, iE 0 64 (τ 4)) :: (Y ++ fm (cO en c κ_22)))))) _ [.int (zI (dvl (-1000) 0 0 (sp_bestColumnWeight P)))] 248
          refine V_iload dL_isBest_248 rfl ?_
          refine V_if_ge (tgt := 259) dL_isBest_250 (by decide) ⟨by omega, by omega⟩ (fun _ => ?_) (fun c_26 => absurd c_26 (by omega))
          refine V_iload dL_isBest_259 rfl ?_
          refine V_iconst dL_isBest_261 ?_
          refine V_iremN dL_isBest_262 ⟨⟨by omega, by omega⟩, ⟨by omega, by omega⟩, by omega, by omega⟩ ?_
          refine V_icmp_ne (tgt := 270) dL_isBest_263 (by decide) ⟨by rw [hr3 c_19]; exact ⟨by omega, by omega⟩, ⟨by omega, by omega⟩⟩ (fun c_27 => absurd (hr3 c_19) c_27) (fun _ => ?_)
          refine V_iconst dL_isBest_266 ?_
          refine V_goto (tgt := 271) dL_isBest_267 (by decide) ?_
          subst hb2; subst hg0; subst ht0; subst he0
          refine V_unO hf ?_
          show V K tL_isBest (3 + 24) (133 + 150) _ _ [.int (zI (bz true))] 271
          refine V_zret hR rfl (by show 3 + 24 ≤ 100; omega) (by show 133 + 150 ≤ 1000; omega) dL_isBest_271 ?_
          exact ⟨_, rfl, rfl, q_23⟩
        · refine V_sipush dL_isBest_224 (by decide) ?_
          refine V_goto (tgt := 234) dL_isBest_227 (by decide) ?_
          refine V_icmp_ne (tgt := 270) dL_isBest_234 (by decide) ⟨by rw [(hr4 c_19).1]; exact ⟨by omega, by omega⟩, ⟨by omega, by omega⟩⟩ (fun c_28 => absurd ((hr4 c_19).1) c_28) (fun _ => ?_)
          refine V_aload_n dL_isBest_237 rfl ?_
          refine V_bipush dL_isBest_238 (by decide) ?_
          refine V_iconst dL_isBest_240 ?_
          refine V_iconst dL_isBest_241 ?_
          refine V_iconst dL_isBest_242 ?_
          refine V_iconst dL_isBest_243 ?_
          refine V_iconst dL_isBest_244 ?_
          refine V_callSBH (As := [.ref (c 0), .int (zI 12), .int (zI 0), .int (zI 0), .int (zI 0), .int (zI 0), .int (zI 0)]) (wr := (lW b2 τ4 ((g0, iE 0 5 (τ 0)) :: ((t0, iE 0 64 (τ 3)) :: ((e0, iE 0 64 (τ 4)) :: Y))))) (wc := fm (cO en c κ_15)) rfl hK (d_12 en c κ_15 0 0 0 0 0 P ⟨hM, q_16⟩) mokL_does w507 w508 ⟨Nat.le_of_ble_eq_true rfl, Nat.le_of_ble_eq_true rfl⟩ rfl (Nat.le_of_ble_eq_true rfl) ⟨(by show 3 + 16 + 8 ≤ 100; omega), (by show 133 + 100 + 50 ≤ 1000; omega)⟩ dL_isBest_245 (fun v w p_29 => ?_)
          obtain ⟨κ_30, rfl, rfl, q_31⟩ := p_29
          rw [(show (sp_bestColumnWeight P).2.2 = P from gc_P rfl)] at q_31
          show V K tL_isBest (3 + 24) (133 + 150) (lW b2 τ4 ((g0, iE 0 5 (τ 0)) :: ((t0, iE 0 64 (τ 3)) :: ((e0, iE 0 64 (τ 4)) :: (Y ++ fm (cO en c κ_30)))))) _ [.int (zI (dvl (-1000) 0 0 (sp_bestColumnWeight P)))] 248
          refine V_iload dL_isBest_248 rfl ?_
          refine V_if_ge (tgt := 259) dL_isBest_250 (by decide) ⟨by omega, by omega⟩ (fun c_34 => absurd c_34 (by omega)) (fun _ => ?_)
          refine V_sipush dL_isBest_253 (by decide) ?_
          refine V_goto (tgt := 263) dL_isBest_256 (by decide) ?_
          refine V_icmp_ne (tgt := 270) dL_isBest_263 (by decide) ⟨by rw [(hr4 c_19).2]; exact ⟨by omega, by omega⟩, ⟨by omega, by omega⟩⟩ (fun c_35 => absurd ((hr4 c_19).2) c_35) (fun _ => ?_)
          refine V_iconst dL_isBest_266 ?_
          refine V_goto (tgt := 271) dL_isBest_267 (by decide) ?_
          subst hb2; subst hg0; subst ht0; subst he0
          refine V_unO hf ?_
          show V K tL_isBest (3 + 24) (133 + 150) _ _ [.int (zI (bz true))] 271
          refine V_zret hR rfl (by show 3 + 24 ≤ 100; omega) (by show 133 + 150 ≤ 1000; omega) dL_isBest_271 ?_
          exact ⟨_, rfl, rfl, q_31⟩
      · refine V_aload dL_isBest_61 rfl ?_
        refine V_iconst dL_isBest_63 ?_
        refine V_iload dL_isBest_64 rfl ?_
        refine V_iconst dL_isBest_66 ?_
        refine V_idiv dL_isBest_67 ⟨⟨by omega, by omega⟩, ⟨by omega, by omega⟩, by omega, by omega⟩ ?_
        refine ls_0 ⟨by omega, by omega⟩ dL_isBest_68 ?_
        refine V_aload dL_isBest_69 rfl ?_
        refine V_iconst dL_isBest_71 ?_
        refine V_iload dL_isBest_72 rfl ?_
        refine V_iconst dL_isBest_74 ?_
        refine V_iremN dL_isBest_75 ⟨⟨by omega, by omega⟩, ⟨by omega, by omega⟩, by omega, by omega⟩ ?_
        refine ls_0 ⟨by omega, by omega⟩ dL_isBest_76 ?_
        have hM_36 : MI (up (up P 0 11 (k / 4)) 0 12 (k % 4)) := hM.sched ⟨by omega, by omega⟩ ⟨by omega, by omega⟩
        have hL_37 : LR (up (up P 0 11 (k / 4)) 0 12 (k % 4)) (up (up τ4 0 3 (k / 4)) 0 4 (k % 4)) := LR.sched hL ((hf 1 (by decide)).trans rfl) ((hf 2 (by decide)).trans rfl) h00 h01 h02 rfl rfl
        refine V_aload dL_isBest_77 rfl ?_
        refine V_aload_n dL_isBest_79 rfl ?_
        refine V_aload dL_isBest_80 rfl ?_
        refine V_callSF (As := [.ref (b2 0), .ref (b2 1), .ref (b2 3)]) hK (q_steps (EX.stb en) b2 (up (up τ4 0 3 (k / 4)) 0 4 (k % 4)) ((g0, iE 0 5 (τ 0)) :: ((t0, iE 0 64 (τ 3)) :: ((e0, iE 0 64 (τ 4)) :: (Y ++ fm (cO en c κ))))) (up (up P 0 11 (k / 4)) 0 12 (k % 4)) ⟨hM_36, hL_37⟩) mokL_steps w868 w869 ⟨Nat.le_of_ble_eq_true rfl, Nat.le_of_ble_eq_true rfl⟩ rfl (Nat.le_of_ble_eq_true rfl) ⟨(by show 3 + 0 + 0 ≤ 100; omega), (by show 133 + 0 + 0 ≤ 1000; omega)⟩ dL_isBest_82 (fun v w p_38 => ?_)
        obtain ⟨τ_39, rfl, rfl, q_40, q_41⟩ := p_38
        show V K tL_isBest 3 133 (lW b2 τ_39 ((g0, iE 0 5 (τ 0)) :: ((t0, iE 0 64 (τ 3)) :: ((e0, iE 0 64 (τ 4)) :: (Y ++ fm (cO en c κ)))))) _ [] 85
        refine V_aload dL_isBest_85 rfl ?_
        refine V_aload_n dL_isBest_87 rfl ?_
        refine V_aload_n dL_isBest_88 rfl ?_
        refine V_aload dL_isBest_89 rfl ?_
        refine V_callSF (As := [.ref (b2 0), .ref (b2 1), .ref (b2 2), .ref (b2 3)]) hK (q_isAllowed (EX.stb en) b2 τ_39 ((g0, iE 0 5 (τ 0)) :: ((t0, iE 0 64 (τ 3)) :: ((e0, iE 0 64 (τ 4)) :: (Y ++ fm (cO en c κ))))) (up (up P 0 11 (k / 4)) 0 12 (k % 4)) ⟨hM_36, ((hL_37).fr q_40 (by decide)), q_41⟩) mokL_isAllowed w886 w887 ⟨Nat.le_of_ble_eq_true rfl, Nat.le_of_ble_eq_true rfl⟩ rfl (Nat.le_of_ble_eq_true rfl) ⟨(by show 3 + 0 + 0 ≤ 100; omega), (by show 133 + 0 + 0 ≤ 1000; omega)⟩ dL_isBest_91 (fun v w p_42 => ?_)
        obtain ⟨rfl, rfl⟩ := p_42
        show V K tL_isBest 3 133 (lW b2 τ_39 ((g0, iE 0 5 (τ 0)) :: ((t0, iE 0 64 (τ 3)) :: ((e0, iE 0 64 (τ 4)) :: (Y ++ fm (cO en c κ)))))) _ [.int (zI (bz (dcd (alw (up (up P 0 11 (k / 4)) 0 12 (k % 4)) ((up (up P 0 11 (k / 4)) 0 12 (k % 4)) 0 11) ((up (up P 0 11 (k / 4)) 0 12 (k % 4)) 0 12)))))] 94
        refine V_ifc_eq (tgt := 186) dL_isBest_94 (by decide) (fun c_43 => ?_) (fun c_43 => ?_)
        · refine V_iinc (L' := [some (.ref (c 0)), some (.ref g0), some (.ref (b2 1)), some (.ref (b2 2)), some (.ref (b2 0)), some (.ref (b2 3)), some (.ref (b2 4)), some (.int (zI best)), some (.int (zI wt)), some (.int (zI (k + 1))), none, none]) dL_isBest_186 (by decide) rfl rfl ?_
          refine V_goto (tgt := 54) dL_isBest_189 (by decide) ?_
          refine ih_54 _ (by omega) (k + 1) best wt τ_39 rfl ?_ ?_ ?_ ?_ ?_ ?_
          · omega
          · exact (((hf.upd (by decide)).upd (by decide)).tr (q_40.mono (by decide)))
          · rw [q_40 0 (by decide)]; exact h00
          · rw [q_40 0 (by decide)]; exact h01
          · rw [q_40 0 (by decide)]; exact h02
          · exact hB.no hk.1 c_43
        · refine V_aload dL_isBest_97 rfl ?_
          refine V_aload_n dL_isBest_99 rfl ?_
          refine V_aload_n dL_isBest_100 rfl ?_
          refine V_aload dL_isBest_101 rfl ?_
          refine V_aload dL_isBest_103 rfl ?_
          refine V_callSF (As := [.ref (b2 0), .ref (b2 1), .ref (b2 2), .ref (b2 3), .ref (b2 4)]) hK (q_ends (EX.stb en) b2 τ_39 ((g0, iE 0 5 (τ 0)) :: ((t0, iE 0 64 (τ 3)) :: ((e0, iE 0 64 (τ 4)) :: (Y ++ fm (cO en c κ))))) (up (up P 0 11 (k / 4)) 0 12 (k % 4)) ⟨hM_36, ((hL_37).fr q_40 (by decide)), q_41⟩) mokL_ends w877 w878 ⟨Nat.le_of_ble_eq_true rfl, Nat.le_of_ble_eq_true rfl⟩ rfl (Nat.le_of_ble_eq_true rfl) ⟨(by show 3 + 0 + 0 ≤ 100; omega), (by show 133 + 0 + 0 ≤ 1000; omega)⟩ dL_isBest_105 (fun v w p_44 => ?_)
          obtain ⟨τ_45, rfl, rfl, q_46, q_47⟩ := p_44
          show V K tL_isBest 3 133 (lW b2 τ_45 ((g0, iE 0 5 (τ 0)) :: ((t0, iE 0 64 (τ 3)) :: ((e0, iE 0 64 (τ 4)) :: (Y ++ fm (cO en c κ)))))) _ [] 108
          refine V_iconst dL_isBest_108 ?_
          refine V_istore (L' := [some (.ref (c 0)), some (.ref g0), some (.ref (b2 1)), some (.ref (b2 2)), some (.ref (b2 0)), some (.ref (b2 3)), some (.ref (b2 4)), some (.int (zI best)), some (.int (zI wt)), some (.int (zI k)), some (.int (zI 0)), none]) dL_isBest_109 (by decide) rfl ?_
          refine V_iconst dL_isBest_111 ?_
          refine V_istore (L' := [some (.ref (c 0)), some (.ref g0), some (.ref (b2 1)), some (.ref (b2 2)), some (.ref (b2 0)), some (.ref (b2 3)), some (.ref (b2 4)), some (.int (zI best)), some (.int (zI wt)), some (.int (zI k)), some (.int (zI 0)), some (.int (zI 0))]) dL_isBest_112 (by decide) rfl ?_
          refine seg_114 0 0 τ_45 ?_ ?_ ?_ ?_ ?_ ?_ ?_ ?_ ?_ ?_ ?_
          · omega
          · exact c_43
          · omega
          · exact (smv_0 _).symm
          · exact ((((hf.upd (by decide)).upd (by decide)).tr (q_40.mono (by decide)))).tr (q_46.mono (by decide))
          · rw [q_46 0 (by decide), q_40 0 (by decide)]; exact h00
          · rw [q_46 0 (by decide), q_40 0 (by decide)]; exact h01
          · rw [q_46 0 (by decide), q_40 0 (by decide)]; exact h02
          · exact ((((hL_37).fr q_40 (by decide))).fr q_46 (by decide))
          · exact q_41.same (q_46 3 (by decide))
          · exact q_47
    have seg_54 : ∀ (k : Int) (best : Int) (wt : Int) (τ4 : St), (0 ≤ k ∧ k ≤ 16) → (fr [0, 3, 4] τ τ4) → (τ4 0 0 = P 0 0) → (τ4 0 1 = P 0 1) → (τ4 0 2 = P 0 2) → (LB P k best wt) → V K tL_isBest 3 133 (lW b2 τ4 ((g0, iE 0 5 (τ 0)) :: ((t0, iE 0 64 (τ 3)) :: ((e0, iE 0 64 (τ 4)) :: (Y ++ fm (cO en c κ)))))) [some (.ref (c 0)), some (.ref g0), some (.ref (b2 1)), some (.ref (b2 2)), some (.ref (b2 0)), some (.ref (b2 3)), some (.ref (b2 4)), some (.int (zI best)), some (.int (zI wt)), some (.int (zI k)), none, none] [] 54 := fun k best wt τ4 hk hf h00 h01 h02 hB => loop_54 _ k best wt τ4 rfl hk hf h00 h01 h02 hB
    have loop_30 : ∀ (n0 : Nat) (k : Int) (τ4 : St), (3 - k).toNat = n0 → (0 ≤ k ∧ k ≤ 3) → (fr [0, 3, 4] τ τ4) → (∀ i, 0 ≤ i → i < k → τ4 0 i = τ 0 i) → V K tL_isBest 3 133 (lW b2 τ4 ((g0, iE 0 5 (τ 0)) :: ((t0, iE 0 64 (τ 3)) :: ((e0, iE 0 64 (τ 4)) :: (Y ++ fm (cO en c κ)))))) [some (.ref (c 0)), some (.ref g0), some (.ref (b2 1)), some (.ref (b2 2)), some (.ref (b2 0)), some (.ref (b2 3)), some (.ref (b2 4)), some (.int (zI (-1000))), some (.int (zI (-1000))), some (.int (zI k)), none, none] [] 30 := by
      intro n0
      induction n0 using Nat.strongRecOn with
      | _ n0 ih_30 =>
      intro k τ4 hm_30 hk hf h0
      refine V_iload dL_isBest_30 rfl ?_
      refine V_iconst dL_isBest_32 ?_
      refine V_icmp_ge (tgt := 51) dL_isBest_33 (by decide) ⟨⟨by omega, by omega⟩, ⟨by omega, by omega⟩⟩ (fun c_48 => ?_) (fun c_48 => ?_)
      · refine V_iconst dL_isBest_51 ?_
        refine V_istore (L' := [some (.ref (c 0)), some (.ref g0), some (.ref (b2 1)), some (.ref (b2 2)), some (.ref (b2 0)), some (.ref (b2 3)), some (.ref (b2 4)), some (.int (zI (-1000))), some (.int (zI (-1000))), some (.int (zI 0)), none, none]) dL_isBest_52 (by decide) rfl ?_
        refine seg_54 0 (-1000) (-1000) τ4 ?_ ?_ ?_ ?_ ?_ ?_
        · omega
        · exact hf
        · exact (h0 0 (by omega) (by omega)).trans hL.g0
        · exact (h0 1 (by omega) (by omega)).trans hL.g1
        · exact (h0 2 (by omega) (by omega)).trans hL.g2
        · exact Or.inl ⟨rfl, rfl, Or.inl ⟨rfl, fun j a b3 => absurd b3 (by omega)⟩⟩
      · refine V_aload dL_isBest_36 rfl ?_
        refine V_iload dL_isBest_38 rfl ?_
        refine V_aload_n dL_isBest_40 rfl ?_
        refine V_iload dL_isBest_41 rfl ?_
        refine V_iald (N := 5) (f := (τ 0)) 5 rfl ⟨by omega, by omega⟩ (by decide) dL_isBest_43 ?_
        refine ls_0 ⟨by omega, by omega⟩ dL_isBest_44 ?_
        refine V_iinc (L' := [some (.ref (c 0)), some (.ref g0), some (.ref (b2 1)), some (.ref (b2 2)), some (.ref (b2 0)), some (.ref (b2 3)), some (.ref (b2 4)), some (.int (zI (-1000))), some (.int (zI (-1000))), some (.int (zI (k + 1))), none, none]) dL_isBest_45 (by decide) rfl rfl ?_
        refine V_goto (tgt := 30) dL_isBest_48 (by decide) ?_
        refine ih_30 _ (by omega) (k + 1) (up τ4 0 k ((τ 0) k)) rfl ?_ ?_ ?_
        · omega
        · exact hf.upd (by decide)
        · intro i a b3
          rw [up_eq]
          by_cases e : i = k
          · rw [e, fup_eq]
          · rw [fup_ne e]; exact h0 i a (by omega)
    have seg_30 : ∀ (k : Int) (τ4 : St), (0 ≤ k ∧ k ≤ 3) → (fr [0, 3, 4] τ τ4) → (∀ i, 0 ≤ i → i < k → τ4 0 i = τ 0 i) → V K tL_isBest 3 133 (lW b2 τ4 ((g0, iE 0 5 (τ 0)) :: ((t0, iE 0 64 (τ 3)) :: ((e0, iE 0 64 (τ 4)) :: (Y ++ fm (cO en c κ)))))) [some (.ref (c 0)), some (.ref g0), some (.ref (b2 1)), some (.ref (b2 2)), some (.ref (b2 0)), some (.ref (b2 3)), some (.ref (b2 4)), some (.int (zI (-1000))), some (.int (zI (-1000))), some (.int (zI k)), none, none] [] 30 := fun k τ4 hk hf h0 => loop_30 _ k τ4 rfl hk hf h0
    refine V_sipush dL_isBest_17 (by decide) ?_
    refine V_istore (L' := [some (.ref (c 0)), some (.ref g0), some (.ref (b2 1)), some (.ref (b2 2)), some (.ref (b2 0)), some (.ref (b2 3)), some (.ref (b2 4)), some (.int (zI (-1000))), none, none, none, none]) dL_isBest_20 (by decide) rfl ?_
    refine V_sipush dL_isBest_22 (by decide) ?_
    refine V_istore (L' := [some (.ref (c 0)), some (.ref g0), some (.ref (b2 1)), some (.ref (b2 2)), some (.ref (b2 0)), some (.ref (b2 3)), some (.ref (b2 4)), some (.int (zI (-1000))), some (.int (zI (-1000))), none, none, none]) dL_isBest_25 (by decide) rfl ?_
    refine V_iconst dL_isBest_27 ?_
    refine V_istore (L' := [some (.ref (c 0)), some (.ref g0), some (.ref (b2 1)), some (.ref (b2 2)), some (.ref (b2 0)), some (.ref (b2 3)), some (.ref (b2 4)), some (.int (zI (-1000))), some (.int (zI (-1000))), some (.int (zI 0)), none, none]) dL_isBest_28 (by decide) rfl ?_
    refine seg_30 0 τ2 ?_ ?_ ?_
    · omega
    · exact hf
    · intro i a b3; omega
  refine V_iconst dL_isBest_0 ?_
  refine V_newl (N := 5) w137 rfl (by decide) ⟨Nat.le_of_ble_eq_true rfl, Nat.le_of_ble_eq_true rfl⟩ dL_isBest_1 (fun qo => ?_)
  show V K tL_isBest 1 5 (lW b τ ((qo, iE 0 5 (fun _ => 0)) :: (Y ++ fm (cO en c κ)))) _ [.ref qo] 3
  refine V_astore (L' := [some (.ref (c 0)), some (.ref (b 0)), some (.ref (b 1)), some (.ref (b 2)), some (.ref qo), none, none, none, none, none, none, none]) dL_isBest_3 (by decide) rfl ?_
  refine V_bipush dL_isBest_5 (by decide) ?_
  refine V_newl (N := 64) w137 rfl (by decide) ⟨Nat.le_of_ble_eq_true rfl, Nat.le_of_ble_eq_true rfl⟩ dL_isBest_7 (fun qt => ?_)
  show V K tL_isBest 2 69 (lW b τ ((qt, iE 0 64 (fun _ => 0)) :: ((qo, iE 0 5 (fun _ => 0)) :: (Y ++ fm (cO en c κ))))) _ [.ref qt] 9
  refine V_astore (L' := [some (.ref (c 0)), some (.ref (b 0)), some (.ref (b 1)), some (.ref (b 2)), some (.ref qo), some (.ref qt), none, none, none, none, none, none]) dL_isBest_9 (by decide) rfl ?_
  refine V_bipush dL_isBest_11 (by decide) ?_
  refine V_newl (N := 64) w137 rfl (by decide) ⟨Nat.le_of_ble_eq_true rfl, Nat.le_of_ble_eq_true rfl⟩ dL_isBest_13 (fun qz => ?_)
  show V K tL_isBest 3 133 (lW b τ ((qz, iE 0 64 (fun _ => 0)) :: ((qt, iE 0 64 (fun _ => 0)) :: ((qo, iE 0 5 (fun _ => 0)) :: (Y ++ fm (cO en c κ)))))) _ [.ref qz] 15
  refine V_astore (L' := [some (.ref (c 0)), some (.ref (b 0)), some (.ref (b 1)), some (.ref (b 2)), some (.ref qo), some (.ref qt), some (.ref qz), none, none, none, none, none]) dL_isBest_15 (by decide) rfl ?_
  refine V_toO ?_
  exact seg_17 (bO b qo qt qz) qo qt qz (b 0) (b 3) (b 4) (τO τ (fun _ => 0) (fun _ => 0) (fun _ => 0)) rfl rfl rfl rfl τO_fr

/-! the class: the best schedule -/
def bS (κ : St) (b r d : Int) : Prop := (κ 78 0 = 0 ∧ b = -1) ∨ (κ 78 0 = 1 ∧ (0 ≤ b ∧ b ≤ 400) ∧ κ 78 3 = b ∧ κ 78 1 = r ∧ κ 78 2 = d)
def bB (P κ : St) (n : Int) : Prop := ∃ b r d, bS κ b r d ∧ IsBest P n b r d
theorem slr_b {P : St} (hM : MI P) (bw cw : Int) : 0 ≤ smv (lr P bw cw) (P 0 2) ∧ smv (lr P bw cw) (P 0 2) ≤ 400 := by
  have hN := hM.2.2.1
  have h := smv_b (f := lr P bw cw) (B := 64) (P 0 2) hN.1 (fun j a b => by have := lr_b hM bw cw j; omega)
  have h2 : P 0 2 * 64 ≤ 4 * 64 := Int.mul_le_mul_of_nonneg_right hN.2 (by decide)
  omega
theorem bB.start {P κ : St} (h : κ 78 0 = 0) : bB P κ 0 := ⟨-1, 0, 0, Or.inl ⟨h, rfl⟩, Or.inl ⟨rfl, fun k a b => by omega⟩⟩
theorem bB.no {P κ : St} {i j : Int} (h : bB P κ (4 * i + j)) (hi : 0 ≤ i) (hj : 0 ≤ j ∧ j < 4) (ha : ¬ alw P i j) : bB P κ (4 * i + (j + 1)) := by
  obtain ⟨b, r, d, h1, h2⟩ := h
  rw [show 4 * i + (j + 1) = (4 * i + j) + 1 by omega]
  exact ⟨b, r, d, h1, h2.no (by omega) (by rw [show (4 * i + j) / 4 = i by omega, show (4 * i + j) % 4 = j by omega]; exact ha)⟩
theorem bB.offer {P κ κ2 κ3 : St} {i j : Int} (hM : MI P) (h : bB P κ (4 * i + j)) (e : κ2 78 = κ 78) (hi : 0 ≤ i) (hj : 0 ≤ j ∧ j < 4) (ha : alw P i j) (h1 : (κ2 78 0 = 0 ∨ smv (lr P i j) (P 0 2) < κ2 78 3) → κ3 = up (up (up (up κ2 78 0 1) 78 1 i) 78 2 j) 78 3 (smv (lr P i j) (P 0 2))) (h2 : ¬ (κ2 78 0 = 0 ∨ smv (lr P i j) (P 0 2) < κ2 78 3) → κ3 = κ2) : bB P κ3 (4 * i + (j + 1)) := by
  obtain ⟨b, r, d, g1, g2⟩ := h
  have hs := slr_b hM i j
  have e4 : (4 * i + j) / 4 = i := by omega
  have e5 : (4 * i + j) % 4 = j := by omega
  rw [show 4 * i + (j + 1) = (4 * i + j) + 1 by omega]
  rw [e] at h1 h2
  by_cases hc : κ 78 0 = 0 ∨ smv (lr P i j) (P 0 2) < κ 78 3
  · rw [h1 hc]
    refine ⟨smv (lr P i j) (P 0 2), i, j, Or.inr ⟨rfl, hs, rfl, rfl, rfl⟩, ?_⟩
    have hb : b < 0 ∨ smv (lr P i j) (P 0 2) < b := by
      rcases g1 with ⟨-, z⟩ | ⟨z0, -, z, -⟩
      · exact Or.inl (by omega)
      · exact Or.inr (by omega)
    have := g2.new (by omega) (by rw [e4, e5]; exact ha) (by rw [e4, e5]; exact hs.1) (by rw [e4, e5]; exact hb)
    rw [e4, e5] at this
    exact this
  · rw [h2 hc]
    rcases g1 with ⟨z, -⟩ | ⟨z0, zb, z3, z1, z2⟩
    · exact absurd (Or.inl z) hc
    · exact ⟨b, r, d, Or.inr ⟨by rw [e]; exact z0, zb, by rw [e]; exact z3, by rw [e]; exact z1, by rw [e]; exact z2⟩, g2.worse (by omega) zb.1 (by rw [e4, e5]; omega)⟩
theorem bB.cwp {P κ2 κ3 : St} {q : Prop} {a b d e : Int} (h : CWP P κ2) (h1 : q → κ3 = up (up (up (up κ2 78 0 a) 78 1 b) 78 2 d) 78 3 e) (h2 : ¬ q → κ3 = κ2) : CWP P κ3 := by
  by_cases hq : q
  · rw [h1 hq]
    exact h.fr (((((fr.rf [78] κ2).upd (by decide)).upd (by decide)).upd (by decide)).upd (by decide)) (by decide)
  · rw [h2 hq]; exact h
theorem bB.pre {P κ : St} {n : Int} (h : bB P κ n) (hb : iR (κ 78 3)) : (κ 78 0 = 0 ∨ κ 78 0 = 1) := by
  obtain ⟨b, r, d, g1, -⟩ := h
  exact g1.imp And.left And.left

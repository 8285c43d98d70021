/-! a read comes in order: one comparison for all points -/
theorem tm_at {P : St} (hM : MI P) {bw cw s i j : Int} (hs : 0 ≤ s ∧ s < P 0 2) (h : inF P i j) : tm P bw cw (s * pt P + (i * P 0 1 + j)) = i * bw + j * cw + P 10 s := by
  obtain ⟨a1, a2, a3, a4⟩ := rdp_b hM h
  have c := comp_eq hM hs.1 hs.2 a1 a2
  have hq := hM.pts
  unfold tm tmc
  rw [c.2.2.2]
  have e1 : (64 * s + (i * P 0 1 + j)) % 64 = i * P 0 1 + j := by omega
  have e2 : (64 * s + (i * P 0 1 + j)) / 64 = s := by omega
  rw [e1, e2, a3, a4]
theorem bt_lt {P : St} {bw cw a b : Int} (ha : 0 ≤ a) (han : a < al P) (hb : 0 ≤ b) (hbn : b < al P) : bt P bw cw a < bt P bw cw b ↔ (tm P bw cw a < tm P bw cw b ∨ (tm P bw cw a = tm P bw cw b ∧ a < b)) := by
  have h := rk_lt_iff (T := tm P bw cw) ha han hb hbn
  unfold bt
  rw [h]
  unfold lx
  exact decide_eq_true_iff
def dly (P : St) (bw cw s r : Int) : Int := P 7 r * bw + P 8 r * cw + P 10 s - P 10 (P 5 r)
def late (P : St) (bw cw s r : Int) : Prop := 0 < dly P bw cw s r ∨ (dly P bw cw s r = 0 ∧ (P 5 r < s ∨ (P 5 r = s ∧ (0 < P 7 r ∨ (P 7 r = 0 ∧ 0 < P 8 r)))))
def clP (P : St) (bw cw s r : Int) : Prop := (P 0 0 ≤ P 7 r ∨ P 0 1 ≤ absI (P 8 r)) ∨ late P bw cw s r
theorem late_iff {P : St} (hM : MI P) {bw cw s r p : Int} (hs : 0 ≤ s ∧ s < P 0 2) (hf : 0 ≤ P 5 r ∧ P 5 r < P 0 2) (hu : 0 ≤ P 7 r) (hp : 0 ≤ p) (hpn : p < pt P) (hi : inP P p r) : bt P bw cw (rdc P p r) < bt P bw cw (s * pt P + p) ↔ late P bw cw s r := by
  obtain ⟨b1, b2, b3, b4, b5⟩ := place_rc hM hp hpn
  have hq := hM.pts
  have hin : inF P (p / P 0 1) (p % P 0 1) := ⟨b1, b2, b3, b4⟩
  obtain ⟨a1, a2, -, -⟩ := rdp_b hM hi
  have c1 := comp_eq hM hf.1 hf.2 a1 a2
  have c2 := comp_eq hM hs.1 hs.2 hp hpn
  have e0 : p = p / P 0 1 * P 0 1 + p % P 0 1 := by rw [Int.mul_comm]; exact b5
  have t2 := tm_at hM (bw := bw) (cw := cw) hs hin
  rw [← e0] at t2
  have t1 := tm_at hM (bw := bw) (cw := cw) hf hi
  have hr : rdc P p r = P 5 r * pt P + (wi P p r * P 0 1 + wj P p r) := rfl
  rw [hr, bt_lt c1.1.1 c1.1.2 c2.1.1 c2.1.2, t1, t2]
  unfold late dly
  obtain ⟨d1, d2, d3, d4⟩ := hi
  unfold wi wj at *
  generalize hgi : p / P 0 1 = i at *
  generalize hgj : p % P 0 1 = j at *
  rw [Int.sub_mul, Int.sub_mul, Int.sub_mul] at *
  have hlt : P 5 r * pt P + (i * P 0 1 - P 7 r * P 0 1 + (j - P 8 r)) < s * pt P + p ↔ (P 5 r < s ∨ (P 5 r = s ∧ (0 < P 7 r ∨ (P 7 r = 0 ∧ 0 < P 8 r)))) := by
    rcases Int.lt_trichotomy (P 5 r) s with h | h | h
    · have m := Int.mul_le_mul_of_nonneg_right (show P 5 r + 1 ≤ s by omega) (show 0 ≤ pt P by omega)
      rw [Int.add_mul, Int.one_mul] at m
      constructor
      · intro _; exact Or.inl h
      · intro _; omega
    · rw [h]
      have key : 0 < P 7 r * P 0 1 + P 8 r ↔ (0 < P 7 r ∨ (P 7 r = 0 ∧ 0 < P 8 r)) := by
        rcases Int.lt_or_eq_of_le hu with h7 | h7
        · have m := Int.mul_le_mul_of_nonneg_right (show 1 ≤ P 7 r by omega) (show 0 ≤ P 0 1 by omega)
          rw [Int.one_mul] at m
          constructor
          · intro _; exact Or.inl h7
          · intro _; omega
        · rw [← h7, Int.zero_mul]
          constructor <;> intro z <;> omega
      constructor
      · intro z
        exact Or.inr ⟨rfl, key.mp (by omega)⟩
      · rintro (z | ⟨-, z⟩)
        · omega
        · have := key.mpr z
          omega
    · have m := Int.mul_le_mul_of_nonneg_right (show s + 1 ≤ P 5 r by omega) (show 0 ≤ pt P by omega)
      rw [Int.add_mul, Int.one_mul] at m
      constructor
      · intro z; omega
      · intro z; omega
  rw [hlt]
  constructor
  · rintro (z | ⟨z, y⟩)
    · exact Or.inl (by omega)
    · exact Or.inr ⟨by omega, y⟩
  · rintro (z | ⟨z, y⟩)
    · exact Or.inl (by omega)
    · exact Or.inr ⟨by omega, y⟩
theorem inO_iff {P : St} (hM : MI P) {bw cw s j : Int} (hs : 0 ≤ s ∧ s < P 0 2) (hj : 0 ≤ j ∧ j < P 4 s) : inO P bw cw s j ↔ clP P bw cw s (4 * s + j) := by
  have hr := MI.rd hM hs hj
  have hC := hM.2.1
  constructor
  · intro h
    by_cases hb : P 0 0 ≤ P 7 (4 * s + j) ∨ P 0 1 ≤ absI (P 8 (4 * s + j))
    · exact Or.inl hb
    · refine Or.inr ?_
      have h1 : P 7 (4 * s + j) < P 0 0 := by omega
      have h2 : absI (P 8 (4 * s + j)) < P 0 1 := by omega
      unfold absI at h2
      obtain ⟨j0, hj0, hj1, hj2⟩ : ∃ j0 : Int, (0 ≤ j0 ∧ j0 < P 0 1) ∧ 0 ≤ j0 - P 8 (4 * s + j) ∧ j0 - P 8 (4 * s + j) < P 0 1 := by
        by_cases hl : P 8 (4 * s + j) < 0
        · rw [if_pos hl] at h2
          exact ⟨0, by omega, by omega, by omega⟩
        · rw [if_neg hl] at h2
          exact ⟨P 8 (4 * s + j), by omega, by omega, by omega⟩
      have hin : inF P (P 7 (4 * s + j)) j0 := ⟨by omega, by omega, hj0.1, hj0.2⟩
      obtain ⟨a1, a2, a3, a4⟩ := rdp_b hM hin
      have hip : inP P (P 7 (4 * s + j) * P 0 1 + j0) (4 * s + j) := by
        unfold inP wi wj
        rw [a3, a4]
        exact ⟨by omega, by omega, hj1, hj2⟩
      exact (late_iff hM hs hr.1 (by omega) a1 a2 hip).mp (h _ a1 a2 hip)
  · rintro (hb | hl) p hp hpn hip
    · obtain ⟨b1, b2, b3, b4, -⟩ := place_rc hM hp hpn
      obtain ⟨d1, d2, d3, d4⟩ := hip
      unfold wi at d1 d2
      unfold wj at d3 d4
      unfold absI at hb
      exfalso
      rcases hb with hb | hb
      · omega
      · split at hb <;> omega
    · exact (late_iff hM hs hr.1 (by omega) hp hpn hip).mpr hl
